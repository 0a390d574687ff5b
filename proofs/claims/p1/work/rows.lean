section
-- ===== PART A: goes FIRST, ahead of the names: the tables' words, and 'selects' of the private methods out of them =====
/-- a private method of a class that the tables say can be made, by its rows of tables_1 -/
def lw_okq (q : MethodName × Nat) : Prop := (q.1.cls ≠ "java/lang/invoke/MethodHandle" ∧ q.1.cls ≠ "java/lang/invoke/VarHandle") ∧ Cond.instantiable q.1.cls q.2 ∈ tables_1 ∧ Cond.privateMethod q.1 ∈ tables_1 ∧ Cond.instanceMethod q.1 ∈ tables_1
theorem lw_p0 : lw_okq (⟨"WordFoundry$Counts", "set", "(II)V"⟩, 1) := ⟨⟨by decide +kernel, by decide +kernel⟩, List.mem_of_getElem? (i := 345) (by decide +kernel), List.mem_of_getElem? (i := 355) (by decide +kernel), List.mem_of_getElem? (i := 356) (by decide +kernel)⟩
theorem lw_p1 : lw_okq (⟨"WordFoundry$Line", "hasMore", "()Z"⟩, 4) := ⟨⟨by decide +kernel, by decide +kernel⟩, List.mem_of_getElem? (i := 225) (by decide +kernel), List.mem_of_getElem? (i := 459) (by decide +kernel), List.mem_of_getElem? (i := 460) (by decide +kernel)⟩
theorem lw_p2 : lw_okq (⟨"WordFoundry$FrameRunner", "readWord", "()I"⟩, 4) := ⟨⟨by decide +kernel, by decide +kernel⟩, List.mem_of_getElem? (i := 320) (by decide +kernel), List.mem_of_getElem? (i := 463) (by decide +kernel), List.mem_of_getElem? (i := 464) (by decide +kernel)⟩
theorem lw_p3 : lw_okq (⟨"WordFoundry$Machine", "step", "()I"⟩, 16) := ⟨⟨by decide +kernel, by decide +kernel⟩, List.mem_of_getElem? (i := 57) (by decide +kernel), List.mem_of_getElem? (i := 467) (by decide +kernel), List.mem_of_getElem? (i := 468) (by decide +kernel)⟩
theorem lw_p4 : lw_okq (⟨"WordFoundry$Line", "nextSort", "()I"⟩, 4) := ⟨⟨by decide +kernel, by decide +kernel⟩, List.mem_of_getElem? (i := 225) (by decide +kernel), List.mem_of_getElem? (i := 471) (by decide +kernel), List.mem_of_getElem? (i := 472) (by decide +kernel)⟩
theorem lw_p5 : lw_okq (⟨"WordFoundry$Line", "nextValue", "()I"⟩, 4) := ⟨⟨by decide +kernel, by decide +kernel⟩, List.mem_of_getElem? (i := 225) (by decide +kernel), List.mem_of_getElem? (i := 475) (by decide +kernel), List.mem_of_getElem? (i := 476) (by decide +kernel)⟩
theorem lw_p6 : lw_okq (⟨"WordFoundry$Draft", "emit", "(CI)I"⟩, 11) := ⟨⟨by decide +kernel, by decide +kernel⟩, List.mem_of_getElem? (i := 176) (by decide +kernel), List.mem_of_getElem? (i := 479) (by decide +kernel), List.mem_of_getElem? (i := 480) (by decide +kernel)⟩
theorem lw_p7 : lw_okq (⟨"WordFoundry$Stack", "put", "(I)I"⟩, 4) := ⟨⟨by decide +kernel, by decide +kernel⟩, List.mem_of_getElem? (i := 63) (by decide +kernel), List.mem_of_getElem? (i := 483) (by decide +kernel), List.mem_of_getElem? (i := 484) (by decide +kernel)⟩
theorem lw_p8 : lw_okq (⟨"WordFoundry$FrameRunner", "readName", "(I)I"⟩, 4) := ⟨⟨by decide +kernel, by decide +kernel⟩, List.mem_of_getElem? (i := 320) (by decide +kernel), List.mem_of_getElem? (i := 487) (by decide +kernel), List.mem_of_getElem? (i := 488) (by decide +kernel)⟩
theorem lw_p9 : lw_okq (⟨"WordFoundry$Dictionary", "search", "(I)I"⟩, 13) := ⟨⟨by decide +kernel, by decide +kernel⟩, List.mem_of_getElem? (i := 101) (by decide +kernel), List.mem_of_getElem? (i := 491) (by decide +kernel), List.mem_of_getElem? (i := 492) (by decide +kernel)⟩
theorem lw_p10 : lw_okq (⟨"WordFoundry$Dictionary", "has", "(I)Z"⟩, 13) := ⟨⟨by decide +kernel, by decide +kernel⟩, List.mem_of_getElem? (i := 101) (by decide +kernel), List.mem_of_getElem? (i := 495) (by decide +kernel), List.mem_of_getElem? (i := 496) (by decide +kernel)⟩
theorem lw_p11 : lw_okq (⟨"WordFoundry$FrameRunner", "begin", "(I)I"⟩, 4) := ⟨⟨by decide +kernel, by decide +kernel⟩, List.mem_of_getElem? (i := 320) (by decide +kernel), List.mem_of_getElem? (i := 499) (by decide +kernel), List.mem_of_getElem? (i := 500) (by decide +kernel)⟩
theorem lw_p12 : lw_okq (⟨"WordFoundry$FrameRunner", "openFrame", "(III)I"⟩, 4) := ⟨⟨by decide +kernel, by decide +kernel⟩, List.mem_of_getElem? (i := 320) (by decide +kernel), List.mem_of_getElem? (i := 503) (by decide +kernel), List.mem_of_getElem? (i := 504) (by decide +kernel)⟩
theorem lw_p13 : lw_okq (⟨"WordFoundry$Machine", "open", "(I)I"⟩, 16) := ⟨⟨by decide +kernel, by decide +kernel⟩, List.mem_of_getElem? (i := 57) (by decide +kernel), List.mem_of_getElem? (i := 507) (by decide +kernel), List.mem_of_getElem? (i := 508) (by decide +kernel)⟩
theorem lw_p14 : lw_okq (⟨"WordFoundry$Machine", "forget", "(I)I"⟩, 16) := ⟨⟨by decide +kernel, by decide +kernel⟩, List.mem_of_getElem? (i := 57) (by decide +kernel), List.mem_of_getElem? (i := 511) (by decide +kernel), List.mem_of_getElem? (i := 512) (by decide +kernel)⟩
theorem lw_p15 : lw_okq (⟨"WordFoundry$Dictionary", "cut", "(I)V"⟩, 13) := ⟨⟨by decide +kernel, by decide +kernel⟩, List.mem_of_getElem? (i := 101) (by decide +kernel), List.mem_of_getElem? (i := 516) (by decide +kernel), List.mem_of_getElem? (i := 517) (by decide +kernel)⟩
def lw_privs_1 : List (MethodName × Nat) := [(⟨"WordFoundry$Counts", "set", "(II)V"⟩, 1), (⟨"WordFoundry$Line", "hasMore", "()Z"⟩, 4), (⟨"WordFoundry$FrameRunner", "readWord", "()I"⟩, 4), (⟨"WordFoundry$Machine", "step", "()I"⟩, 16), (⟨"WordFoundry$Line", "nextSort", "()I"⟩, 4), (⟨"WordFoundry$Line", "nextValue", "()I"⟩, 4), (⟨"WordFoundry$Draft", "emit", "(CI)I"⟩, 11), (⟨"WordFoundry$Stack", "put", "(I)I"⟩, 4), (⟨"WordFoundry$FrameRunner", "readName", "(I)I"⟩, 4), (⟨"WordFoundry$Dictionary", "search", "(I)I"⟩, 13), (⟨"WordFoundry$Dictionary", "has", "(I)Z"⟩, 13), (⟨"WordFoundry$FrameRunner", "begin", "(I)I"⟩, 4), (⟨"WordFoundry$FrameRunner", "openFrame", "(III)I"⟩, 4), (⟨"WordFoundry$Machine", "open", "(I)I"⟩, 16), (⟨"WordFoundry$Machine", "forget", "(I)I"⟩, 16), (⟨"WordFoundry$Dictionary", "cut", "(I)V"⟩, 13)]
theorem lw_r1 : ∀ q ∈ lw_privs_1, lw_okq q := List.forall_mem_cons.mpr ⟨lw_p0, List.forall_mem_cons.mpr ⟨lw_p1, List.forall_mem_cons.mpr ⟨lw_p2, List.forall_mem_cons.mpr ⟨lw_p3, List.forall_mem_cons.mpr ⟨lw_p4, List.forall_mem_cons.mpr ⟨lw_p5, List.forall_mem_cons.mpr ⟨lw_p6, List.forall_mem_cons.mpr ⟨lw_p7, List.forall_mem_cons.mpr ⟨lw_p8, List.forall_mem_cons.mpr ⟨lw_p9, List.forall_mem_cons.mpr ⟨lw_p10, List.forall_mem_cons.mpr ⟨lw_p11, List.forall_mem_cons.mpr ⟨lw_p12, List.forall_mem_cons.mpr ⟨lw_p13, List.forall_mem_cons.mpr ⟨lw_p14, List.forall_mem_cons.mpr ⟨lw_p15, fun _ h => absurd h List.not_mem_nil⟩⟩⟩⟩⟩⟩⟩⟩⟩⟩⟩⟩⟩⟩⟩⟩
theorem lw_p16 : lw_okq (⟨"WordFoundry$FrameRunner", "readCore", "(C)I"⟩, 4) := ⟨⟨by decide +kernel, by decide +kernel⟩, List.mem_of_getElem? (i := 320) (by decide +kernel), List.mem_of_getElem? (i := 520) (by decide +kernel), List.mem_of_getElem? (i := 521) (by decide +kernel)⟩
theorem lw_p17 : lw_okq (⟨"WordFoundry$Machine", "immediate", "(C)I"⟩, 16) := ⟨⟨by decide +kernel, by decide +kernel⟩, List.mem_of_getElem? (i := 57) (by decide +kernel), List.mem_of_getElem? (i := 611) (by decide +kernel), List.mem_of_getElem? (i := 612) (by decide +kernel)⟩
theorem lw_p18 : lw_okq (⟨"WordFoundry$Machine", "tick", "()I"⟩, 16) := ⟨⟨by decide +kernel, by decide +kernel⟩, List.mem_of_getElem? (i := 57) (by decide +kernel), List.mem_of_getElem? (i := 615) (by decide +kernel), List.mem_of_getElem? (i := 616) (by decide +kernel)⟩
theorem lw_p19 : lw_okq (⟨"WordFoundry$Line", "takeName", "()I"⟩, 4) := ⟨⟨by decide +kernel, by decide +kernel⟩, List.mem_of_getElem? (i := 225) (by decide +kernel), List.mem_of_getElem? (i := 619) (by decide +kernel), List.mem_of_getElem? (i := 620) (by decide +kernel)⟩
theorem lw_p20 : lw_okq (⟨"WordFoundry$Draft", "openForward", "()I"⟩, 11) := ⟨⟨by decide +kernel, by decide +kernel⟩, List.mem_of_getElem? (i := 176) (by decide +kernel), List.mem_of_getElem? (i := 626) (by decide +kernel), List.mem_of_getElem? (i := 627) (by decide +kernel)⟩
theorem lw_p21 : lw_okq (⟨"WordFoundry$Draft", "putMark", "(CI)I"⟩, 11) := ⟨⟨by decide +kernel, by decide +kernel⟩, List.mem_of_getElem? (i := 176) (by decide +kernel), List.mem_of_getElem? (i := 631) (by decide +kernel), List.mem_of_getElem? (i := 632) (by decide +kernel)⟩
theorem lw_p22 : lw_okq (⟨"WordFoundry$Draft", "landForward", "()I"⟩, 11) := ⟨⟨by decide +kernel, by decide +kernel⟩, List.mem_of_getElem? (i := 176) (by decide +kernel), List.mem_of_getElem? (i := 635) (by decide +kernel), List.mem_of_getElem? (i := 636) (by decide +kernel)⟩
theorem lw_p23 : lw_okq (⟨"WordFoundry$Draft", "uppermost", "()I"⟩, 11) := ⟨⟨by decide +kernel, by decide +kernel⟩, List.mem_of_getElem? (i := 176) (by decide +kernel), List.mem_of_getElem? (i := 639) (by decide +kernel), List.mem_of_getElem? (i := 640) (by decide +kernel)⟩
theorem lw_p24 : lw_okq (⟨"WordFoundry$Draft", "uppermostPlace", "()I"⟩, 11) := ⟨⟨by decide +kernel, by decide +kernel⟩, List.mem_of_getElem? (i := 176) (by decide +kernel), List.mem_of_getElem? (i := 643) (by decide +kernel), List.mem_of_getElem? (i := 644) (by decide +kernel)⟩
theorem lw_p25 : lw_okq (⟨"WordFoundry$Draft", "lead", "(II)V"⟩, 11) := ⟨⟨by decide +kernel, by decide +kernel⟩, List.mem_of_getElem? (i := 176) (by decide +kernel), List.mem_of_getElem? (i := 647) (by decide +kernel), List.mem_of_getElem? (i := 648) (by decide +kernel)⟩
theorem lw_p26 : lw_okq (⟨"WordFoundry$Draft", "takeMark", "()V"⟩, 11) := ⟨⟨by decide +kernel, by decide +kernel⟩, List.mem_of_getElem? (i := 176) (by decide +kernel), List.mem_of_getElem? (i := 651) (by decide +kernel), List.mem_of_getElem? (i := 652) (by decide +kernel)⟩
theorem lw_p27 : lw_okq (⟨"WordFoundry$Draft", "openOther", "()I"⟩, 11) := ⟨⟨by decide +kernel, by decide +kernel⟩, List.mem_of_getElem? (i := 176) (by decide +kernel), List.mem_of_getElem? (i := 655) (by decide +kernel), List.mem_of_getElem? (i := 656) (by decide +kernel)⟩
theorem lw_p28 : lw_okq (⟨"WordFoundry$Draft", "closeBack", "()I"⟩, 11) := ⟨⟨by decide +kernel, by decide +kernel⟩, List.mem_of_getElem? (i := 176) (by decide +kernel), List.mem_of_getElem? (i := 660) (by decide +kernel), List.mem_of_getElem? (i := 661) (by decide +kernel)⟩
theorem lw_p29 : lw_okq (⟨"WordFoundry$Draft", "openInside", "()I"⟩, 11) := ⟨⟨by decide +kernel, by decide +kernel⟩, List.mem_of_getElem? (i := 176) (by decide +kernel), List.mem_of_getElem? (i := 664) (by decide +kernel), List.mem_of_getElem? (i := 665) (by decide +kernel)⟩
theorem lw_p30 : lw_okq (⟨"WordFoundry$Draft", "closeBoth", "()I"⟩, 11) := ⟨⟨by decide +kernel, by decide +kernel⟩, List.mem_of_getElem? (i := 176) (by decide +kernel), List.mem_of_getElem? (i := 668) (by decide +kernel), List.mem_of_getElem? (i := 669) (by decide +kernel)⟩
theorem lw_p31 : lw_okq (⟨"WordFoundry$Draft", "hasForwardBelow", "()Z"⟩, 11) := ⟨⟨by decide +kernel, by decide +kernel⟩, List.mem_of_getElem? (i := 176) (by decide +kernel), List.mem_of_getElem? (i := 672) (by decide +kernel), List.mem_of_getElem? (i := 673) (by decide +kernel)⟩
def lw_privs_2 : List (MethodName × Nat) := [(⟨"WordFoundry$FrameRunner", "readCore", "(C)I"⟩, 4), (⟨"WordFoundry$Machine", "immediate", "(C)I"⟩, 16), (⟨"WordFoundry$Machine", "tick", "()I"⟩, 16), (⟨"WordFoundry$Line", "takeName", "()I"⟩, 4), (⟨"WordFoundry$Draft", "openForward", "()I"⟩, 11), (⟨"WordFoundry$Draft", "putMark", "(CI)I"⟩, 11), (⟨"WordFoundry$Draft", "landForward", "()I"⟩, 11), (⟨"WordFoundry$Draft", "uppermost", "()I"⟩, 11), (⟨"WordFoundry$Draft", "uppermostPlace", "()I"⟩, 11), (⟨"WordFoundry$Draft", "lead", "(II)V"⟩, 11), (⟨"WordFoundry$Draft", "takeMark", "()V"⟩, 11), (⟨"WordFoundry$Draft", "openOther", "()I"⟩, 11), (⟨"WordFoundry$Draft", "closeBack", "()I"⟩, 11), (⟨"WordFoundry$Draft", "openInside", "()I"⟩, 11), (⟨"WordFoundry$Draft", "closeBoth", "()I"⟩, 11), (⟨"WordFoundry$Draft", "hasForwardBelow", "()Z"⟩, 11)]
theorem lw_r2 : ∀ q ∈ lw_privs_2, lw_okq q := List.forall_mem_cons.mpr ⟨lw_p16, List.forall_mem_cons.mpr ⟨lw_p17, List.forall_mem_cons.mpr ⟨lw_p18, List.forall_mem_cons.mpr ⟨lw_p19, List.forall_mem_cons.mpr ⟨lw_p20, List.forall_mem_cons.mpr ⟨lw_p21, List.forall_mem_cons.mpr ⟨lw_p22, List.forall_mem_cons.mpr ⟨lw_p23, List.forall_mem_cons.mpr ⟨lw_p24, List.forall_mem_cons.mpr ⟨lw_p25, List.forall_mem_cons.mpr ⟨lw_p26, List.forall_mem_cons.mpr ⟨lw_p27, List.forall_mem_cons.mpr ⟨lw_p28, List.forall_mem_cons.mpr ⟨lw_p29, List.forall_mem_cons.mpr ⟨lw_p30, List.forall_mem_cons.mpr ⟨lw_p31, fun _ h => absurd h List.not_mem_nil⟩⟩⟩⟩⟩⟩⟩⟩⟩⟩⟩⟩⟩⟩⟩⟩
theorem lw_p32 : lw_okq (⟨"WordFoundry$Draft", "openCounted", "()I"⟩, 11) := ⟨⟨by decide +kernel, by decide +kernel⟩, List.mem_of_getElem? (i := 176) (by decide +kernel), List.mem_of_getElem? (i := 676) (by decide +kernel), List.mem_of_getElem? (i := 677) (by decide +kernel)⟩
theorem lw_p33 : lw_okq (⟨"WordFoundry$Draft", "closeCounted", "()I"⟩, 11) := ⟨⟨by decide +kernel, by decide +kernel⟩, List.mem_of_getElem? (i := 176) (by decide +kernel), List.mem_of_getElem? (i := 680) (by decide +kernel), List.mem_of_getElem? (i := 681) (by decide +kernel)⟩
theorem lw_p34 : lw_okq (⟨"WordFoundry$Draft", "leaveCounted", "()I"⟩, 11) := ⟨⟨by decide +kernel, by decide +kernel⟩, List.mem_of_getElem? (i := 176) (by decide +kernel), List.mem_of_getElem? (i := 684) (by decide +kernel), List.mem_of_getElem? (i := 685) (by decide +kernel)⟩
theorem lw_p35 : lw_okq (⟨"WordFoundry$Machine", "compileOne", "(C)I"⟩, 16) := ⟨⟨by decide +kernel, by decide +kernel⟩, List.mem_of_getElem? (i := 57) (by decide +kernel), List.mem_of_getElem? (i := 688) (by decide +kernel), List.mem_of_getElem? (i := 689) (by decide +kernel)⟩
theorem lw_p36 : lw_okq (⟨"WordFoundry$Stack", "holds", "(I)Z"⟩, 4) := ⟨⟨by decide +kernel, by decide +kernel⟩, List.mem_of_getElem? (i := 63) (by decide +kernel), List.mem_of_getElem? (i := 692) (by decide +kernel), List.mem_of_getElem? (i := 693) (by decide +kernel)⟩
theorem lw_p37 : lw_okq (⟨"WordFoundry$Stack", "take", "()I"⟩, 4) := ⟨⟨by decide +kernel, by decide +kernel⟩, List.mem_of_getElem? (i := 63) (by decide +kernel), List.mem_of_getElem? (i := 696) (by decide +kernel), List.mem_of_getElem? (i := 697) (by decide +kernel)⟩
theorem lw_p38 : lw_okq (⟨"WordFoundry$Machine", "postpone", "()I"⟩, 16) := ⟨⟨by decide +kernel, by decide +kernel⟩, List.mem_of_getElem? (i := 57) (by decide +kernel), List.mem_of_getElem? (i := 700) (by decide +kernel), List.mem_of_getElem? (i := 701) (by decide +kernel)⟩
theorem lw_p39 : lw_okq (⟨"WordFoundry$Machine", "finish", "()I"⟩, 16) := ⟨⟨by decide +kernel, by decide +kernel⟩, List.mem_of_getElem? (i := 57) (by decide +kernel), List.mem_of_getElem? (i := 708) (by decide +kernel), List.mem_of_getElem? (i := 709) (by decide +kernel)⟩
theorem lw_p40 : lw_okq (⟨"WordFoundry$Dictionary", "add", "(CIII)I"⟩, 13) := ⟨⟨by decide +kernel, by decide +kernel⟩, List.mem_of_getElem? (i := 101) (by decide +kernel), List.mem_of_getElem? (i := 712) (by decide +kernel), List.mem_of_getElem? (i := 713) (by decide +kernel)⟩
theorem lw_p41 : lw_okq (⟨"WordFoundry$Dictionary", "takeOps", "(LWordFoundry$Draft;)V"⟩, 13) := ⟨⟨by decide +kernel, by decide +kernel⟩, List.mem_of_getElem? (i := 101) (by decide +kernel), List.mem_of_getElem? (i := 716) (by decide +kernel), List.mem_of_getElem? (i := 717) (by decide +kernel)⟩
theorem lw_p42 : lw_okq (⟨"WordFoundry$Draft", "drop", "()V"⟩, 11) := ⟨⟨by decide +kernel, by decide +kernel⟩, List.mem_of_getElem? (i := 176) (by decide +kernel), List.mem_of_getElem? (i := 723) (by decide +kernel), List.mem_of_getElem? (i := 724) (by decide +kernel)⟩
theorem lw_p43 : lw_okq (⟨"WordFoundry$FrameRunner", "doCore", "(C)I"⟩, 4) := ⟨⟨by decide +kernel, by decide +kernel⟩, List.mem_of_getElem? (i := 320) (by decide +kernel), List.mem_of_getElem? (i := 727) (by decide +kernel), List.mem_of_getElem? (i := 728) (by decide +kernel)⟩
theorem lw_p44 : lw_okq (⟨"WordFoundry$FrameRunner", "beginTaken", "(Z)I"⟩, 4) := ⟨⟨by decide +kernel, by decide +kernel⟩, List.mem_of_getElem? (i := 320) (by decide +kernel), List.mem_of_getElem? (i := 731) (by decide +kernel), List.mem_of_getElem? (i := 732) (by decide +kernel)⟩
theorem lw_p45 : lw_okq (⟨"WordFoundry$Machine", "keepStacks", "()V"⟩, 16) := ⟨⟨by decide +kernel, by decide +kernel⟩, List.mem_of_getElem? (i := 57) (by decide +kernel), List.mem_of_getElem? (i := 737) (by decide +kernel), List.mem_of_getElem? (i := 738) (by decide +kernel)⟩
theorem lw_p46 : lw_okq (⟨"WordFoundry$Stack", "keep", "(I)V"⟩, 4) := ⟨⟨by decide +kernel, by decide +kernel⟩, List.mem_of_getElem? (i := 63) (by decide +kernel), List.mem_of_getElem? (i := 741) (by decide +kernel), List.mem_of_getElem? (i := 742) (by decide +kernel)⟩
theorem lw_p47 : lw_okq (⟨"WordFoundry$Machine", "core", "(C)I"⟩, 16) := ⟨⟨by decide +kernel, by decide +kernel⟩, List.mem_of_getElem? (i := 57) (by decide +kernel), List.mem_of_getElem? (i := 746) (by decide +kernel), List.mem_of_getElem? (i := 747) (by decide +kernel)⟩
def lw_privs_3 : List (MethodName × Nat) := [(⟨"WordFoundry$Draft", "openCounted", "()I"⟩, 11), (⟨"WordFoundry$Draft", "closeCounted", "()I"⟩, 11), (⟨"WordFoundry$Draft", "leaveCounted", "()I"⟩, 11), (⟨"WordFoundry$Machine", "compileOne", "(C)I"⟩, 16), (⟨"WordFoundry$Stack", "holds", "(I)Z"⟩, 4), (⟨"WordFoundry$Stack", "take", "()I"⟩, 4), (⟨"WordFoundry$Machine", "postpone", "()I"⟩, 16), (⟨"WordFoundry$Machine", "finish", "()I"⟩, 16), (⟨"WordFoundry$Dictionary", "add", "(CIII)I"⟩, 13), (⟨"WordFoundry$Dictionary", "takeOps", "(LWordFoundry$Draft;)V"⟩, 13), (⟨"WordFoundry$Draft", "drop", "()V"⟩, 11), (⟨"WordFoundry$FrameRunner", "doCore", "(C)I"⟩, 4), (⟨"WordFoundry$FrameRunner", "beginTaken", "(Z)I"⟩, 4), (⟨"WordFoundry$Machine", "keepStacks", "()V"⟩, 16), (⟨"WordFoundry$Stack", "keep", "(I)V"⟩, 4), (⟨"WordFoundry$Machine", "core", "(C)I"⟩, 16)]
theorem lw_r3 : ∀ q ∈ lw_privs_3, lw_okq q := List.forall_mem_cons.mpr ⟨lw_p32, List.forall_mem_cons.mpr ⟨lw_p33, List.forall_mem_cons.mpr ⟨lw_p34, List.forall_mem_cons.mpr ⟨lw_p35, List.forall_mem_cons.mpr ⟨lw_p36, List.forall_mem_cons.mpr ⟨lw_p37, List.forall_mem_cons.mpr ⟨lw_p38, List.forall_mem_cons.mpr ⟨lw_p39, List.forall_mem_cons.mpr ⟨lw_p40, List.forall_mem_cons.mpr ⟨lw_p41, List.forall_mem_cons.mpr ⟨lw_p42, List.forall_mem_cons.mpr ⟨lw_p43, List.forall_mem_cons.mpr ⟨lw_p44, List.forall_mem_cons.mpr ⟨lw_p45, List.forall_mem_cons.mpr ⟨lw_p46, List.forall_mem_cons.mpr ⟨lw_p47, fun _ h => absurd h List.not_mem_nil⟩⟩⟩⟩⟩⟩⟩⟩⟩⟩⟩⟩⟩⟩⟩⟩
theorem lw_p48 : lw_okq (⟨"WordFoundry$Machine", "shuffle", "(C)I"⟩, 16) := ⟨⟨by decide +kernel, by decide +kernel⟩, List.mem_of_getElem? (i := 57) (by decide +kernel), List.mem_of_getElem? (i := 772) (by decide +kernel), List.mem_of_getElem? (i := 773) (by decide +kernel)⟩
theorem lw_p49 : lw_okq (⟨"WordFoundry$Stack", "peek", "(I)I"⟩, 4) := ⟨⟨by decide +kernel, by decide +kernel⟩, List.mem_of_getElem? (i := 63) (by decide +kernel), List.mem_of_getElem? (i := 776) (by decide +kernel), List.mem_of_getElem? (i := 777) (by decide +kernel)⟩
theorem lw_p50 : lw_okq (⟨"WordFoundry$Stack", "drop", "(I)V"⟩, 4) := ⟨⟨by decide +kernel, by decide +kernel⟩, List.mem_of_getElem? (i := 63) (by decide +kernel), List.mem_of_getElem? (i := 780) (by decide +kernel), List.mem_of_getElem? (i := 781) (by decide +kernel)⟩
theorem lw_p51 : lw_okq (⟨"WordFoundry$Stack", "change", "(II)V"⟩, 4) := ⟨⟨by decide +kernel, by decide +kernel⟩, List.mem_of_getElem? (i := 63) (by decide +kernel), List.mem_of_getElem? (i := 785) (by decide +kernel), List.mem_of_getElem? (i := 786) (by decide +kernel)⟩
theorem lw_p52 : lw_okq (⟨"WordFoundry$Machine", "reckon", "(C)I"⟩, 16) := ⟨⟨by decide +kernel, by decide +kernel⟩, List.mem_of_getElem? (i := 57) (by decide +kernel), List.mem_of_getElem? (i := 789) (by decide +kernel), List.mem_of_getElem? (i := 790) (by decide +kernel)⟩
theorem lw_p53 : lw_okq (⟨"WordFoundry$Machine", "move", "(C)I"⟩, 16) := ⟨⟨by decide +kernel, by decide +kernel⟩, List.mem_of_getElem? (i := 57) (by decide +kernel), List.mem_of_getElem? (i := 799) (by decide +kernel), List.mem_of_getElem? (i := 800) (by decide +kernel)⟩
theorem lw_p54 : lw_okq (⟨"WordFoundry$Printed", "add", "(I)I"⟩, 2) := ⟨⟨by decide +kernel, by decide +kernel⟩, List.mem_of_getElem? (i := 85) (by decide +kernel), List.mem_of_getElem? (i := 803) (by decide +kernel), List.mem_of_getElem? (i := 804) (by decide +kernel)⟩
theorem lw_p55 : lw_okq (⟨"WordFoundry$Machine", "ownOnSecond", "()I"⟩, 16) := ⟨⟨by decide +kernel, by decide +kernel⟩, List.mem_of_getElem? (i := 57) (by decide +kernel), List.mem_of_getElem? (i := 821) (by decide +kernel), List.mem_of_getElem? (i := 822) (by decide +kernel)⟩
theorem lw_p56 : lw_okq (⟨"WordFoundry$Machine", "store", "(C)I"⟩, 16) := ⟨⟨by decide +kernel, by decide +kernel⟩, List.mem_of_getElem? (i := 57) (by decide +kernel), List.mem_of_getElem? (i := 825) (by decide +kernel), List.mem_of_getElem? (i := 826) (by decide +kernel)⟩
theorem lw_p57 : lw_okq (⟨"WordFoundry$Machine", "define", "(C)I"⟩, 16) := ⟨⟨by decide +kernel, by decide +kernel⟩, List.mem_of_getElem? (i := 57) (by decide +kernel), List.mem_of_getElem? (i := 830) (by decide +kernel), List.mem_of_getElem? (i := 831) (by decide +kernel)⟩
theorem lw_p58 : lw_okq (⟨"WordFoundry$Draft", "begin", "(II)V"⟩, 11) := ⟨⟨by decide +kernel, by decide +kernel⟩, List.mem_of_getElem? (i := 176) (by decide +kernel), List.mem_of_getElem? (i := 834) (by decide +kernel), List.mem_of_getElem? (i := 835) (by decide +kernel)⟩
theorem lw_p59 : lw_okq (⟨"WordFoundry$Machine", "redirect", "()I"⟩, 16) := ⟨⟨by decide +kernel, by decide +kernel⟩, List.mem_of_getElem? (i := 57) (by decide +kernel), List.mem_of_getElem? (i := 838) (by decide +kernel), List.mem_of_getElem? (i := 839) (by decide +kernel)⟩
theorem lw_p60 : lw_okq (⟨"WordFoundry$Machine", "govern", "(C)I"⟩, 16) := ⟨⟨by decide +kernel, by decide +kernel⟩, List.mem_of_getElem? (i := 57) (by decide +kernel), List.mem_of_getElem? (i := 842) (by decide +kernel), List.mem_of_getElem? (i := 843) (by decide +kernel)⟩
theorem lw_p61 : lw_okq (⟨"WordFoundry$FrameRunner", "drive", "(I)I"⟩, 4) := ⟨⟨by decide +kernel, by decide +kernel⟩, List.mem_of_getElem? (i := 320) (by decide +kernel), List.mem_of_getElem? (i := 846) (by decide +kernel), List.mem_of_getElem? (i := 847) (by decide +kernel)⟩
theorem lw_p62 : lw_okq (⟨"WordFoundry$FrameRunner", "catchFault", "(I)I"⟩, 4) := ⟨⟨by decide +kernel, by decide +kernel⟩, List.mem_of_getElem? (i := 320) (by decide +kernel), List.mem_of_getElem? (i := 850) (by decide +kernel), List.mem_of_getElem? (i := 851) (by decide +kernel)⟩
theorem lw_p63 : lw_okq (⟨"WordFoundry$Machine", "bringStacksBack", "()V"⟩, 16) := ⟨⟨by decide +kernel, by decide +kernel⟩, List.mem_of_getElem? (i := 57) (by decide +kernel), List.mem_of_getElem? (i := 855) (by decide +kernel), List.mem_of_getElem? (i := 856) (by decide +kernel)⟩
def lw_privs_4 : List (MethodName × Nat) := [(⟨"WordFoundry$Machine", "shuffle", "(C)I"⟩, 16), (⟨"WordFoundry$Stack", "peek", "(I)I"⟩, 4), (⟨"WordFoundry$Stack", "drop", "(I)V"⟩, 4), (⟨"WordFoundry$Stack", "change", "(II)V"⟩, 4), (⟨"WordFoundry$Machine", "reckon", "(C)I"⟩, 16), (⟨"WordFoundry$Machine", "move", "(C)I"⟩, 16), (⟨"WordFoundry$Printed", "add", "(I)I"⟩, 2), (⟨"WordFoundry$Machine", "ownOnSecond", "()I"⟩, 16), (⟨"WordFoundry$Machine", "store", "(C)I"⟩, 16), (⟨"WordFoundry$Machine", "define", "(C)I"⟩, 16), (⟨"WordFoundry$Draft", "begin", "(II)V"⟩, 11), (⟨"WordFoundry$Machine", "redirect", "()I"⟩, 16), (⟨"WordFoundry$Machine", "govern", "(C)I"⟩, 16), (⟨"WordFoundry$FrameRunner", "drive", "(I)I"⟩, 4), (⟨"WordFoundry$FrameRunner", "catchFault", "(I)I"⟩, 4), (⟨"WordFoundry$Machine", "bringStacksBack", "()V"⟩, 16)]
theorem lw_r4 : ∀ q ∈ lw_privs_4, lw_okq q := List.forall_mem_cons.mpr ⟨lw_p48, List.forall_mem_cons.mpr ⟨lw_p49, List.forall_mem_cons.mpr ⟨lw_p50, List.forall_mem_cons.mpr ⟨lw_p51, List.forall_mem_cons.mpr ⟨lw_p52, List.forall_mem_cons.mpr ⟨lw_p53, List.forall_mem_cons.mpr ⟨lw_p54, List.forall_mem_cons.mpr ⟨lw_p55, List.forall_mem_cons.mpr ⟨lw_p56, List.forall_mem_cons.mpr ⟨lw_p57, List.forall_mem_cons.mpr ⟨lw_p58, List.forall_mem_cons.mpr ⟨lw_p59, List.forall_mem_cons.mpr ⟨lw_p60, List.forall_mem_cons.mpr ⟨lw_p61, List.forall_mem_cons.mpr ⟨lw_p62, List.forall_mem_cons.mpr ⟨lw_p63, fun _ h => absurd h List.not_mem_nil⟩⟩⟩⟩⟩⟩⟩⟩⟩⟩⟩⟩⟩⟩⟩⟩
theorem lw_p64 : lw_okq (⟨"WordFoundry$Stack", "bringBack", "(I)V"⟩, 4) := ⟨⟨by decide +kernel, by decide +kernel⟩, List.mem_of_getElem? (i := 63) (by decide +kernel), List.mem_of_getElem? (i := 859) (by decide +kernel), List.mem_of_getElem? (i := 860) (by decide +kernel)⟩
theorem lw_p65 : lw_okq (⟨"WordFoundry$FrameRunner", "oneTurn", "()I"⟩, 4) := ⟨⟨by decide +kernel, by decide +kernel⟩, List.mem_of_getElem? (i := 320) (by decide +kernel), List.mem_of_getElem? (i := 864) (by decide +kernel), List.mem_of_getElem? (i := 865) (by decide +kernel)⟩
theorem lw_p66 : lw_okq (⟨"WordFoundry$Dictionary", "hasOp", "(II)Z"⟩, 13) := ⟨⟨by decide +kernel, by decide +kernel⟩, List.mem_of_getElem? (i := 101) (by decide +kernel), List.mem_of_getElem? (i := 868) (by decide +kernel), List.mem_of_getElem? (i := 869) (by decide +kernel)⟩
theorem lw_p67 : lw_okq (⟨"WordFoundry$FrameRunner", "end", "()I"⟩, 4) := ⟨⟨by decide +kernel, by decide +kernel⟩, List.mem_of_getElem? (i := 320) (by decide +kernel), List.mem_of_getElem? (i := 873) (by decide +kernel), List.mem_of_getElem? (i := 874) (by decide +kernel)⟩
theorem lw_p68 : lw_okq (⟨"WordFoundry$Machine", "close", "()I"⟩, 16) := ⟨⟨by decide +kernel, by decide +kernel⟩, List.mem_of_getElem? (i := 57) (by decide +kernel), List.mem_of_getElem? (i := 877) (by decide +kernel), List.mem_of_getElem? (i := 878) (by decide +kernel)⟩
theorem lw_p69 : lw_okq (⟨"WordFoundry$Dictionary", "opKind", "(II)C"⟩, 13) := ⟨⟨by decide +kernel, by decide +kernel⟩, List.mem_of_getElem? (i := 101) (by decide +kernel), List.mem_of_getElem? (i := 881) (by decide +kernel), List.mem_of_getElem? (i := 882) (by decide +kernel)⟩
theorem lw_p70 : lw_okq (⟨"WordFoundry$Dictionary", "opValue", "(II)I"⟩, 13) := ⟨⟨by decide +kernel, by decide +kernel⟩, List.mem_of_getElem? (i := 101) (by decide +kernel), List.mem_of_getElem? (i := 886) (by decide +kernel), List.mem_of_getElem? (i := 887) (by decide +kernel)⟩
theorem lw_p71 : lw_okq (⟨"WordFoundry$Machine", "giveDoing", "(II)I"⟩, 16) := ⟨⟨by decide +kernel, by decide +kernel⟩, List.mem_of_getElem? (i := 57) (by decide +kernel), List.mem_of_getElem? (i := 890) (by decide +kernel), List.mem_of_getElem? (i := 891) (by decide +kernel)⟩
theorem lw_p72 : lw_okq (⟨"WordFoundry$Machine", "jump", "(CII)I"⟩, 16) := ⟨⟨by decide +kernel, by decide +kernel⟩, List.mem_of_getElem? (i := 57) (by decide +kernel), List.mem_of_getElem? (i := 894) (by decide +kernel), List.mem_of_getElem? (i := 895) (by decide +kernel)⟩
theorem lw_p73 : lw_okq (⟨"WordFoundry$Machine", "countOn", "(I)I"⟩, 16) := ⟨⟨by decide +kernel, by decide +kernel⟩, List.mem_of_getElem? (i := 57) (by decide +kernel), List.mem_of_getElem? (i := 898) (by decide +kernel), List.mem_of_getElem? (i := 899) (by decide +kernel)⟩
theorem lw_p74 : lw_okq (⟨"WordFoundry$Machine", "leaveCounting", "(I)I"⟩, 16) := ⟨⟨by decide +kernel, by decide +kernel⟩, List.mem_of_getElem? (i := 57) (by decide +kernel), List.mem_of_getElem? (i := 902) (by decide +kernel), List.mem_of_getElem? (i := 903) (by decide +kernel)⟩
theorem lw_p75 : lw_okq (⟨"WordFoundry$Machine", "doOp", "(CI)I"⟩, 16) := ⟨⟨by decide +kernel, by decide +kernel⟩, List.mem_of_getElem? (i := 57) (by decide +kernel), List.mem_of_getElem? (i := 906) (by decide +kernel), List.mem_of_getElem? (i := 907) (by decide +kernel)⟩
theorem lw_p76 : lw_okq (⟨"WordFoundry$Machine", "beginCounting", "()I"⟩, 16) := ⟨⟨by decide +kernel, by decide +kernel⟩, List.mem_of_getElem? (i := 57) (by decide +kernel), List.mem_of_getElem? (i := 910) (by decide +kernel), List.mem_of_getElem? (i := 911) (by decide +kernel)⟩
theorem lw_p77 : lw_okq (⟨"WordFoundry$Line", "clear", "()V"⟩, 4) := ⟨⟨by decide +kernel, by decide +kernel⟩, List.mem_of_getElem? (i := 225) (by decide +kernel), List.mem_of_getElem? (i := 914) (by decide +kernel), List.mem_of_getElem? (i := 915) (by decide +kernel)⟩
theorem lw_p78 : lw_okq (⟨"WordFoundry", "keepTrail", "(I)V"⟩, 10) := ⟨⟨by decide +kernel, by decide +kernel⟩, List.mem_of_getElem? (i := 49) (by decide +kernel), List.mem_of_getElem? (i := 918) (by decide +kernel), List.mem_of_getElem? (i := 919) (by decide +kernel)⟩
theorem lw_p79 : lw_okq (⟨"WordFoundry$Machine", "abandon", "()V"⟩, 16) := ⟨⟨by decide +kernel, by decide +kernel⟩, List.mem_of_getElem? (i := 57) (by decide +kernel), List.mem_of_getElem? (i := 923) (by decide +kernel), List.mem_of_getElem? (i := 924) (by decide +kernel)⟩
def lw_privs_5 : List (MethodName × Nat) := [(⟨"WordFoundry$Stack", "bringBack", "(I)V"⟩, 4), (⟨"WordFoundry$FrameRunner", "oneTurn", "()I"⟩, 4), (⟨"WordFoundry$Dictionary", "hasOp", "(II)Z"⟩, 13), (⟨"WordFoundry$FrameRunner", "end", "()I"⟩, 4), (⟨"WordFoundry$Machine", "close", "()I"⟩, 16), (⟨"WordFoundry$Dictionary", "opKind", "(II)C"⟩, 13), (⟨"WordFoundry$Dictionary", "opValue", "(II)I"⟩, 13), (⟨"WordFoundry$Machine", "giveDoing", "(II)I"⟩, 16), (⟨"WordFoundry$Machine", "jump", "(CII)I"⟩, 16), (⟨"WordFoundry$Machine", "countOn", "(I)I"⟩, 16), (⟨"WordFoundry$Machine", "leaveCounting", "(I)I"⟩, 16), (⟨"WordFoundry$Machine", "doOp", "(CI)I"⟩, 16), (⟨"WordFoundry$Machine", "beginCounting", "()I"⟩, 16), (⟨"WordFoundry$Line", "clear", "()V"⟩, 4), (⟨"WordFoundry", "keepTrail", "(I)V"⟩, 10), (⟨"WordFoundry$Machine", "abandon", "()V"⟩, 16)]
theorem lw_r5 : ∀ q ∈ lw_privs_5, lw_okq q := List.forall_mem_cons.mpr ⟨lw_p64, List.forall_mem_cons.mpr ⟨lw_p65, List.forall_mem_cons.mpr ⟨lw_p66, List.forall_mem_cons.mpr ⟨lw_p67, List.forall_mem_cons.mpr ⟨lw_p68, List.forall_mem_cons.mpr ⟨lw_p69, List.forall_mem_cons.mpr ⟨lw_p70, List.forall_mem_cons.mpr ⟨lw_p71, List.forall_mem_cons.mpr ⟨lw_p72, List.forall_mem_cons.mpr ⟨lw_p73, List.forall_mem_cons.mpr ⟨lw_p74, List.forall_mem_cons.mpr ⟨lw_p75, List.forall_mem_cons.mpr ⟨lw_p76, List.forall_mem_cons.mpr ⟨lw_p77, List.forall_mem_cons.mpr ⟨lw_p78, List.forall_mem_cons.mpr ⟨lw_p79, fun _ h => absurd h List.not_mem_nil⟩⟩⟩⟩⟩⟩⟩⟩⟩⟩⟩⟩⟩⟩⟩⟩
theorem lw_p80 : lw_okq (⟨"WordFoundry$FrameRunner", "abandon", "()V"⟩, 4) := ⟨⟨by decide +kernel, by decide +kernel⟩, List.mem_of_getElem? (i := 320) (by decide +kernel), List.mem_of_getElem? (i := 927) (by decide +kernel), List.mem_of_getElem? (i := 928) (by decide +kernel)⟩
theorem lw_p81 : lw_okq (⟨"WordFoundry$Effects", "measureThrough", "(I)V"⟩, 9) := ⟨⟨by decide +kernel, by decide +kernel⟩, List.mem_of_getElem? (i := 339) (by decide +kernel), List.mem_of_getElem? (i := 972) (by decide +kernel), List.mem_of_getElem? (i := 973) (by decide +kernel)⟩
theorem lw_p82 : lw_okq (⟨"WordFoundry$Effects", "measure", "(I)Z"⟩, 9) := ⟨⟨by decide +kernel, by decide +kernel⟩, List.mem_of_getElem? (i := 339) (by decide +kernel), List.mem_of_getElem? (i := 976) (by decide +kernel), List.mem_of_getElem? (i := 977) (by decide +kernel)⟩
theorem lw_p83 : lw_okq (⟨"WordFoundry$Effects", "follow", "(IIII)Z"⟩, 9) := ⟨⟨by decide +kernel, by decide +kernel⟩, List.mem_of_getElem? (i := 339) (by decide +kernel), List.mem_of_getElem? (i := 980) (by decide +kernel), List.mem_of_getElem? (i := 981) (by decide +kernel)⟩
theorem lw_p84 : lw_okq (⟨"WordFoundry$Counts", "copy", "(II)V"⟩, 1) := ⟨⟨by decide +kernel, by decide +kernel⟩, List.mem_of_getElem? (i := 345) (by decide +kernel), List.mem_of_getElem? (i := 984) (by decide +kernel), List.mem_of_getElem? (i := 985) (by decide +kernel)⟩
theorem lw_p85 : lw_okq (⟨"WordFoundry$Effects", "reach", "(I)Z"⟩, 9) := ⟨⟨by decide +kernel, by decide +kernel⟩, List.mem_of_getElem? (i := 339) (by decide +kernel), List.mem_of_getElem? (i := 989) (by decide +kernel), List.mem_of_getElem? (i := 990) (by decide +kernel)⟩
theorem lw_p86 : lw_okq (⟨"WordFoundry$Counts", "isSame", "(II)Z"⟩, 1) := ⟨⟨by decide +kernel, by decide +kernel⟩, List.mem_of_getElem? (i := 345) (by decide +kernel), List.mem_of_getElem? (i := 993) (by decide +kernel), List.mem_of_getElem? (i := 994) (by decide +kernel)⟩
theorem lw_p87 : lw_okq (⟨"WordFoundry$Effects", "pass", "(III)Z"⟩, 9) := ⟨⟨by decide +kernel, by decide +kernel⟩, List.mem_of_getElem? (i := 339) (by decide +kernel), List.mem_of_getElem? (i := 997) (by decide +kernel), List.mem_of_getElem? (i := 998) (by decide +kernel)⟩
theorem lw_p88 : lw_okq (⟨"WordFoundry$Effects", "weigh", "(ICI)Z"⟩, 9) := ⟨⟨by decide +kernel, by decide +kernel⟩, List.mem_of_getElem? (i := 339) (by decide +kernel), List.mem_of_getElem? (i := 1003) (by decide +kernel), List.mem_of_getElem? (i := 1004) (by decide +kernel)⟩
theorem lw_p89 : lw_okq (⟨"WordFoundry$Effects", "weighCore", "(C)Z"⟩, 9) := ⟨⟨by decide +kernel, by decide +kernel⟩, List.mem_of_getElem? (i := 339) (by decide +kernel), List.mem_of_getElem? (i := 1007) (by decide +kernel), List.mem_of_getElem? (i := 1008) (by decide +kernel)⟩
theorem lw_p90 : lw_okq (⟨"WordFoundry$Effects", "change", "(I)V"⟩, 9) := ⟨⟨by decide +kernel, by decide +kernel⟩, List.mem_of_getElem? (i := 339) (by decide +kernel), List.mem_of_getElem? (i := 1016) (by decide +kernel), List.mem_of_getElem? (i := 1017) (by decide +kernel)⟩
theorem lw_p91 : lw_okq (⟨"WordFoundry$Counts", "subtract", "(II)V"⟩, 1) := ⟨⟨by decide +kernel, by decide +kernel⟩, List.mem_of_getElem? (i := 345) (by decide +kernel), List.mem_of_getElem? (i := 1020) (by decide +kernel), List.mem_of_getElem? (i := 1021) (by decide +kernel)⟩
theorem lw_p92 : lw_okq (⟨"WordFoundry$Counts", "isLess", "(II)Z"⟩, 1) := ⟨⟨by decide +kernel, by decide +kernel⟩, List.mem_of_getElem? (i := 345) (by decide +kernel), List.mem_of_getElem? (i := 1025) (by decide +kernel), List.mem_of_getElem? (i := 1026) (by decide +kernel)⟩
theorem lw_p93 : lw_okq (⟨"WordFoundry$Counts", "add", "(II)V"⟩, 1) := ⟨⟨by decide +kernel, by decide +kernel⟩, List.mem_of_getElem? (i := 345) (by decide +kernel), List.mem_of_getElem? (i := 1029) (by decide +kernel), List.mem_of_getElem? (i := 1030) (by decide +kernel)⟩
theorem lw_p94 : lw_okq (⟨"WordFoundry$SoundCheck", "prepare", "(LWordFoundry$Machine;)V"⟩, 4) := ⟨⟨by decide +kernel, by decide +kernel⟩, List.mem_of_getElem? (i := 388) (by decide +kernel), List.mem_of_getElem? (i := 1034) (by decide +kernel), List.mem_of_getElem? (i := 1035) (by decide +kernel)⟩
theorem lw_p95 : lw_okq (⟨"WordFoundry$Machine", "copyFrom", "(LWordFoundry$Machine;)V"⟩, 16) := ⟨⟨by decide +kernel, by decide +kernel⟩, List.mem_of_getElem? (i := 57) (by decide +kernel), List.mem_of_getElem? (i := 1038) (by decide +kernel), List.mem_of_getElem? (i := 1039) (by decide +kernel)⟩
def lw_privs_6 : List (MethodName × Nat) := [(⟨"WordFoundry$FrameRunner", "abandon", "()V"⟩, 4), (⟨"WordFoundry$Effects", "measureThrough", "(I)V"⟩, 9), (⟨"WordFoundry$Effects", "measure", "(I)Z"⟩, 9), (⟨"WordFoundry$Effects", "follow", "(IIII)Z"⟩, 9), (⟨"WordFoundry$Counts", "copy", "(II)V"⟩, 1), (⟨"WordFoundry$Effects", "reach", "(I)Z"⟩, 9), (⟨"WordFoundry$Counts", "isSame", "(II)Z"⟩, 1), (⟨"WordFoundry$Effects", "pass", "(III)Z"⟩, 9), (⟨"WordFoundry$Effects", "weigh", "(ICI)Z"⟩, 9), (⟨"WordFoundry$Effects", "weighCore", "(C)Z"⟩, 9), (⟨"WordFoundry$Effects", "change", "(I)V"⟩, 9), (⟨"WordFoundry$Counts", "subtract", "(II)V"⟩, 1), (⟨"WordFoundry$Counts", "isLess", "(II)Z"⟩, 1), (⟨"WordFoundry$Counts", "add", "(II)V"⟩, 1), (⟨"WordFoundry$SoundCheck", "prepare", "(LWordFoundry$Machine;)V"⟩, 4), (⟨"WordFoundry$Machine", "copyFrom", "(LWordFoundry$Machine;)V"⟩, 16)]
theorem lw_r6 : ∀ q ∈ lw_privs_6, lw_okq q := List.forall_mem_cons.mpr ⟨lw_p80, List.forall_mem_cons.mpr ⟨lw_p81, List.forall_mem_cons.mpr ⟨lw_p82, List.forall_mem_cons.mpr ⟨lw_p83, List.forall_mem_cons.mpr ⟨lw_p84, List.forall_mem_cons.mpr ⟨lw_p85, List.forall_mem_cons.mpr ⟨lw_p86, List.forall_mem_cons.mpr ⟨lw_p87, List.forall_mem_cons.mpr ⟨lw_p88, List.forall_mem_cons.mpr ⟨lw_p89, List.forall_mem_cons.mpr ⟨lw_p90, List.forall_mem_cons.mpr ⟨lw_p91, List.forall_mem_cons.mpr ⟨lw_p92, List.forall_mem_cons.mpr ⟨lw_p93, List.forall_mem_cons.mpr ⟨lw_p94, List.forall_mem_cons.mpr ⟨lw_p95, fun _ h => absurd h List.not_mem_nil⟩⟩⟩⟩⟩⟩⟩⟩⟩⟩⟩⟩⟩⟩⟩⟩
theorem lw_p96 : lw_okq (⟨"WordFoundry$Stack", "copyFrom", "(LWordFoundry$Stack;)V"⟩, 4) := ⟨⟨by decide +kernel, by decide +kernel⟩, List.mem_of_getElem? (i := 63) (by decide +kernel), List.mem_of_getElem? (i := 1043) (by decide +kernel), List.mem_of_getElem? (i := 1044) (by decide +kernel)⟩
theorem lw_p97 : lw_okq (⟨"WordFoundry$Dictionary", "copyFrom", "(LWordFoundry$Dictionary;)V"⟩, 13) := ⟨⟨by decide +kernel, by decide +kernel⟩, List.mem_of_getElem? (i := 101) (by decide +kernel), List.mem_of_getElem? (i := 1048) (by decide +kernel), List.mem_of_getElem? (i := 1049) (by decide +kernel)⟩
theorem lw_p98 : lw_okq (⟨"WordFoundry$RecursiveRunner", "runEntry", "(II)I"⟩, 1) := ⟨⟨by decide +kernel, by decide +kernel⟩, List.mem_of_getElem? (i := 398) (by decide +kernel), List.mem_of_getElem? (i := 1055) (by decide +kernel), List.mem_of_getElem? (i := 1056) (by decide +kernel)⟩
theorem lw_p99 : lw_okq (⟨"WordFoundry$RecursiveRunner", "runWord", "(IIII)I"⟩, 1) := ⟨⟨by decide +kernel, by decide +kernel⟩, List.mem_of_getElem? (i := 398) (by decide +kernel), List.mem_of_getElem? (i := 1060) (by decide +kernel), List.mem_of_getElem? (i := 1061) (by decide +kernel)⟩
theorem lw_p100 : lw_okq (⟨"WordFoundry$RecursiveRunner", "runOp", "(CII)I"⟩, 1) := ⟨⟨by decide +kernel, by decide +kernel⟩, List.mem_of_getElem? (i := 398) (by decide +kernel), List.mem_of_getElem? (i := 1073) (by decide +kernel), List.mem_of_getElem? (i := 1074) (by decide +kernel)⟩
theorem lw_p101 : lw_okq (⟨"WordFoundry$RecursiveRunner", "runTaken", "(ZI)I"⟩, 1) := ⟨⟨by decide +kernel, by decide +kernel⟩, List.mem_of_getElem? (i := 398) (by decide +kernel), List.mem_of_getElem? (i := 1078) (by decide +kernel), List.mem_of_getElem? (i := 1079) (by decide +kernel)⟩
theorem lw_p102 : lw_okq (⟨"WordFoundry$RecursiveRunner", "runDeferred", "(II)I"⟩, 1) := ⟨⟨by decide +kernel, by decide +kernel⟩, List.mem_of_getElem? (i := 398) (by decide +kernel), List.mem_of_getElem? (i := 1091) (by decide +kernel), List.mem_of_getElem? (i := 1092) (by decide +kernel)⟩
theorem lw_p103 : lw_okq (⟨"WordFoundry$SoundCheck", "agrees", "(II)Z"⟩, 4) := ⟨⟨by decide +kernel, by decide +kernel⟩, List.mem_of_getElem? (i := 388) (by decide +kernel), List.mem_of_getElem? (i := 1095) (by decide +kernel), List.mem_of_getElem? (i := 1096) (by decide +kernel)⟩
theorem lw_p104 : lw_okq (⟨"WordFoundry$Machine", "isLike", "(LWordFoundry$Machine;)Z"⟩, 16) := ⟨⟨by decide +kernel, by decide +kernel⟩, List.mem_of_getElem? (i := 57) (by decide +kernel), List.mem_of_getElem? (i := 1100) (by decide +kernel), List.mem_of_getElem? (i := 1101) (by decide +kernel)⟩
theorem lw_p105 : lw_okq (⟨"WordFoundry$Stack", "isLike", "(LWordFoundry$Stack;)Z"⟩, 4) := ⟨⟨by decide +kernel, by decide +kernel⟩, List.mem_of_getElem? (i := 63) (by decide +kernel), List.mem_of_getElem? (i := 1104) (by decide +kernel), List.mem_of_getElem? (i := 1105) (by decide +kernel)⟩
theorem lw_p106 : lw_okq (⟨"WordFoundry$Printed", "isLike", "(LWordFoundry$Printed;)Z"⟩, 2) := ⟨⟨by decide +kernel, by decide +kernel⟩, List.mem_of_getElem? (i := 85) (by decide +kernel), List.mem_of_getElem? (i := 1108) (by decide +kernel), List.mem_of_getElem? (i := 1109) (by decide +kernel)⟩
theorem lw_p107 : lw_okq (⟨"WordFoundry", "grewAsTold", "(I)Z"⟩, 10) := ⟨⟨by decide +kernel, by decide +kernel⟩, List.mem_of_getElem? (i := 49) (by decide +kernel), List.mem_of_getElem? (i := 1112) (by decide +kernel), List.mem_of_getElem? (i := 1113) (by decide +kernel)⟩
theorem lw_p108 : lw_okq (⟨"WordFoundry$Effects", "tellsGrowth", "(II)Z"⟩, 9) := ⟨⟨by decide +kernel, by decide +kernel⟩, List.mem_of_getElem? (i := 339) (by decide +kernel), List.mem_of_getElem? (i := 1116) (by decide +kernel), List.mem_of_getElem? (i := 1117) (by decide +kernel)⟩
theorem lw_p109 : lw_okq (⟨"java/lang/Throwable", "fillInStackTrace", "(I)Ljava/lang/Throwable;"⟩, 6) := ⟨⟨by decide +kernel, by decide +kernel⟩, List.mem_of_getElem? (i := 1176) (by decide +kernel), List.mem_of_getElem? (i := 1174) (by decide +kernel), List.mem_of_getElem? (i := 1175) (by decide +kernel)⟩
theorem lw_p110 : lw_okq (⟨"WordFoundry$Line", "isFull", "()Z"⟩, 4) := ⟨⟨by decide +kernel, by decide +kernel⟩, List.mem_of_getElem? (i := 225) (by decide +kernel), List.mem_of_getElem? (i := 1205) (by decide +kernel), List.mem_of_getElem? (i := 1206) (by decide +kernel)⟩
theorem lw_p111 : lw_okq (⟨"WordFoundry$Line", "add", "(II)I"⟩, 4) := ⟨⟨by decide +kernel, by decide +kernel⟩, List.mem_of_getElem? (i := 225) (by decide +kernel), List.mem_of_getElem? (i := 1225) (by decide +kernel), List.mem_of_getElem? (i := 1226) (by decide +kernel)⟩
def lw_privs_7 : List (MethodName × Nat) := [(⟨"WordFoundry$Stack", "copyFrom", "(LWordFoundry$Stack;)V"⟩, 4), (⟨"WordFoundry$Dictionary", "copyFrom", "(LWordFoundry$Dictionary;)V"⟩, 13), (⟨"WordFoundry$RecursiveRunner", "runEntry", "(II)I"⟩, 1), (⟨"WordFoundry$RecursiveRunner", "runWord", "(IIII)I"⟩, 1), (⟨"WordFoundry$RecursiveRunner", "runOp", "(CII)I"⟩, 1), (⟨"WordFoundry$RecursiveRunner", "runTaken", "(ZI)I"⟩, 1), (⟨"WordFoundry$RecursiveRunner", "runDeferred", "(II)I"⟩, 1), (⟨"WordFoundry$SoundCheck", "agrees", "(II)Z"⟩, 4), (⟨"WordFoundry$Machine", "isLike", "(LWordFoundry$Machine;)Z"⟩, 16), (⟨"WordFoundry$Stack", "isLike", "(LWordFoundry$Stack;)Z"⟩, 4), (⟨"WordFoundry$Printed", "isLike", "(LWordFoundry$Printed;)Z"⟩, 2), (⟨"WordFoundry", "grewAsTold", "(I)Z"⟩, 10), (⟨"WordFoundry$Effects", "tellsGrowth", "(II)Z"⟩, 9), (⟨"java/lang/Throwable", "fillInStackTrace", "(I)Ljava/lang/Throwable;"⟩, 6), (⟨"WordFoundry$Line", "isFull", "()Z"⟩, 4), (⟨"WordFoundry$Line", "add", "(II)I"⟩, 4)]
theorem lw_r7 : ∀ q ∈ lw_privs_7, lw_okq q := List.forall_mem_cons.mpr ⟨lw_p96, List.forall_mem_cons.mpr ⟨lw_p97, List.forall_mem_cons.mpr ⟨lw_p98, List.forall_mem_cons.mpr ⟨lw_p99, List.forall_mem_cons.mpr ⟨lw_p100, List.forall_mem_cons.mpr ⟨lw_p101, List.forall_mem_cons.mpr ⟨lw_p102, List.forall_mem_cons.mpr ⟨lw_p103, List.forall_mem_cons.mpr ⟨lw_p104, List.forall_mem_cons.mpr ⟨lw_p105, List.forall_mem_cons.mpr ⟨lw_p106, List.forall_mem_cons.mpr ⟨lw_p107, List.forall_mem_cons.mpr ⟨lw_p108, List.forall_mem_cons.mpr ⟨lw_p109, List.forall_mem_cons.mpr ⟨lw_p110, List.forall_mem_cons.mpr ⟨lw_p111, fun _ h => absurd h List.not_mem_nil⟩⟩⟩⟩⟩⟩⟩⟩⟩⟩⟩⟩⟩⟩⟩⟩
theorem lw_p112 : lw_okq (⟨"WordFoundry$Effects", "told", "(I)I"⟩, 9) := ⟨⟨by decide +kernel, by decide +kernel⟩, List.mem_of_getElem? (i := 339) (by decide +kernel), List.mem_of_getElem? (i := 1425) (by decide +kernel), List.mem_of_getElem? (i := 1426) (by decide +kernel)⟩
theorem lw_p113 : lw_okq (⟨"WordFoundry$Counts", "lowest", "(I)I"⟩, 1) := ⟨⟨by decide +kernel, by decide +kernel⟩, List.mem_of_getElem? (i := 345) (by decide +kernel), List.mem_of_getElem? (i := 1429) (by decide +kernel), List.mem_of_getElem? (i := 1430) (by decide +kernel)⟩
theorem lw_p114 : lw_okq (⟨"WordFoundryModel", "fails", "(I)I"⟩, 31) := ⟨⟨by decide +kernel, by decide +kernel⟩, List.mem_of_getElem? (i := 1464) (by decide +kernel), List.mem_of_getElem? (i := 1604) (by decide +kernel), List.mem_of_getElem? (i := 1605) (by decide +kernel)⟩
theorem lw_p115 : lw_okq (⟨"WordFoundryModel", "puts", "(CI)I"⟩, 31) := ⟨⟨by decide +kernel, by decide +kernel⟩, List.mem_of_getElem? (i := 1464) (by decide +kernel), List.mem_of_getElem? (i := 1608) (by decide +kernel), List.mem_of_getElem? (i := 1609) (by decide +kernel)⟩
theorem lw_p116 : lw_okq (⟨"java/util/ArrayList", "add", "(Ljava/lang/Object;[Ljava/lang/Object;I)V"⟩, 3) := ⟨⟨by decide +kernel, by decide +kernel⟩, List.mem_of_getElem? (i := 1470) (by decide +kernel), List.mem_of_getElem? (i := 1635) (by decide +kernel), List.mem_of_getElem? (i := 1636) (by decide +kernel)⟩
theorem lw_p117 : lw_okq (⟨"java/util/ArrayList", "grow", "()[Ljava/lang/Object;"⟩, 3) := ⟨⟨by decide +kernel, by decide +kernel⟩, List.mem_of_getElem? (i := 1470) (by decide +kernel), List.mem_of_getElem? (i := 1639) (by decide +kernel), List.mem_of_getElem? (i := 1640) (by decide +kernel)⟩
theorem lw_p118 : lw_okq (⟨"java/util/ArrayList", "grow", "(I)[Ljava/lang/Object;"⟩, 3) := ⟨⟨by decide +kernel, by decide +kernel⟩, List.mem_of_getElem? (i := 1470) (by decide +kernel), List.mem_of_getElem? (i := 1643) (by decide +kernel), List.mem_of_getElem? (i := 1644) (by decide +kernel)⟩
theorem lw_p119 : lw_okq (⟨"WordFoundryModel", "tell", "(I)I"⟩, 31) := ⟨⟨by decide +kernel, by decide +kernel⟩, List.mem_of_getElem? (i := 1464) (by decide +kernel), List.mem_of_getElem? (i := 1700) (by decide +kernel), List.mem_of_getElem? (i := 1701) (by decide +kernel)⟩
theorem lw_p120 : lw_okq (⟨"WordFoundryModel", "reads", "(LWordFoundryModel$Op;)V"⟩, 31) := ⟨⟨by decide +kernel, by decide +kernel⟩, List.mem_of_getElem? (i := 1464) (by decide +kernel), List.mem_of_getElem? (i := 1733) (by decide +kernel), List.mem_of_getElem? (i := 1734) (by decide +kernel)⟩
theorem lw_p121 : lw_okq (⟨"WordFoundryModel", "step", "()V"⟩, 31) := ⟨⟨by decide +kernel, by decide +kernel⟩, List.mem_of_getElem? (i := 1464) (by decide +kernel), List.mem_of_getElem? (i := 1737) (by decide +kernel), List.mem_of_getElem? (i := 1738) (by decide +kernel)⟩
theorem lw_p122 : lw_okq (⟨"WordFoundryModel", "compiles", "(C)V"⟩, 31) := ⟨⟨by decide +kernel, by decide +kernel⟩, List.mem_of_getElem? (i := 1464) (by decide +kernel), List.mem_of_getElem? (i := 1761) (by decide +kernel), List.mem_of_getElem? (i := 1762) (by decide +kernel)⟩
theorem lw_p123 : lw_okq (⟨"WordFoundryModel", "error", "(ZI)V"⟩, 31) := ⟨⟨by decide +kernel, by decide +kernel⟩, List.mem_of_getElem? (i := 1464) (by decide +kernel), List.mem_of_getElem? (i := 1765) (by decide +kernel), List.mem_of_getElem? (i := 1766) (by decide +kernel)⟩
theorem lw_p124 : lw_okq (⟨"WordFoundryModel", "branches", "(C)V"⟩, 31) := ⟨⟨by decide +kernel, by decide +kernel⟩, List.mem_of_getElem? (i := 1464) (by decide +kernel), List.mem_of_getElem? (i := 1793) (by decide +kernel), List.mem_of_getElem? (i := 1794) (by decide +kernel)⟩
theorem lw_p125 : lw_okq (⟨"WordFoundryModel", "needsMark", "(CI)V"⟩, 31) := ⟨⟨by decide +kernel, by decide +kernel⟩, List.mem_of_getElem? (i := 1464) (by decide +kernel), List.mem_of_getElem? (i := 1797) (by decide +kernel), List.mem_of_getElem? (i := 1798) (by decide +kernel)⟩
theorem lw_p126 : lw_okq (⟨"WordFoundryModel", "mark", "(I)LWordFoundryModel$Mark;"⟩, 31) := ⟨⟨by decide +kernel, by decide +kernel⟩, List.mem_of_getElem? (i := 1464) (by decide +kernel), List.mem_of_getElem? (i := 1801) (by decide +kernel), List.mem_of_getElem? (i := 1802) (by decide +kernel)⟩
theorem lw_p127 : lw_okq (⟨"WordFoundryModel", "adds", "(CI)V"⟩, 31) := ⟨⟨by decide +kernel, by decide +kernel⟩, List.mem_of_getElem? (i := 1464) (by decide +kernel), List.mem_of_getElem? (i := 1826) (by decide +kernel), List.mem_of_getElem? (i := 1827) (by decide +kernel)⟩
def lw_privs_8 : List (MethodName × Nat) := [(⟨"WordFoundry$Effects", "told", "(I)I"⟩, 9), (⟨"WordFoundry$Counts", "lowest", "(I)I"⟩, 1), (⟨"WordFoundryModel", "fails", "(I)I"⟩, 31), (⟨"WordFoundryModel", "puts", "(CI)I"⟩, 31), (⟨"java/util/ArrayList", "add", "(Ljava/lang/Object;[Ljava/lang/Object;I)V"⟩, 3), (⟨"java/util/ArrayList", "grow", "()[Ljava/lang/Object;"⟩, 3), (⟨"java/util/ArrayList", "grow", "(I)[Ljava/lang/Object;"⟩, 3), (⟨"WordFoundryModel", "tell", "(I)I"⟩, 31), (⟨"WordFoundryModel", "reads", "(LWordFoundryModel$Op;)V"⟩, 31), (⟨"WordFoundryModel", "step", "()V"⟩, 31), (⟨"WordFoundryModel", "compiles", "(C)V"⟩, 31), (⟨"WordFoundryModel", "error", "(ZI)V"⟩, 31), (⟨"WordFoundryModel", "branches", "(C)V"⟩, 31), (⟨"WordFoundryModel", "needsMark", "(CI)V"⟩, 31), (⟨"WordFoundryModel", "mark", "(I)LWordFoundryModel$Mark;"⟩, 31), (⟨"WordFoundryModel", "adds", "(CI)V"⟩, 31)]
theorem lw_r8 : ∀ q ∈ lw_privs_8, lw_okq q := List.forall_mem_cons.mpr ⟨lw_p112, List.forall_mem_cons.mpr ⟨lw_p113, List.forall_mem_cons.mpr ⟨lw_p114, List.forall_mem_cons.mpr ⟨lw_p115, List.forall_mem_cons.mpr ⟨lw_p116, List.forall_mem_cons.mpr ⟨lw_p117, List.forall_mem_cons.mpr ⟨lw_p118, List.forall_mem_cons.mpr ⟨lw_p119, List.forall_mem_cons.mpr ⟨lw_p120, List.forall_mem_cons.mpr ⟨lw_p121, List.forall_mem_cons.mpr ⟨lw_p122, List.forall_mem_cons.mpr ⟨lw_p123, List.forall_mem_cons.mpr ⟨lw_p124, List.forall_mem_cons.mpr ⟨lw_p125, List.forall_mem_cons.mpr ⟨lw_p126, List.forall_mem_cons.mpr ⟨lw_p127, fun _ h => absurd h List.not_mem_nil⟩⟩⟩⟩⟩⟩⟩⟩⟩⟩⟩⟩⟩⟩⟩⟩
theorem lw_p128 : lw_okq (⟨"java/util/ArrayList", "rangeCheckForAdd", "(I)V"⟩, 3) := ⟨⟨by decide +kernel, by decide +kernel⟩, List.mem_of_getElem? (i := 1470) (by decide +kernel), List.mem_of_getElem? (i := 1834) (by decide +kernel), List.mem_of_getElem? (i := 1835) (by decide +kernel)⟩
theorem lw_p129 : lw_okq (⟨"java/util/ArrayList", "outOfBoundsMsg", "(I)Ljava/lang/String;"⟩, 3) := ⟨⟨by decide +kernel, by decide +kernel⟩, List.mem_of_getElem? (i := 1470) (by decide +kernel), List.mem_of_getElem? (i := 1839) (by decide +kernel), List.mem_of_getElem? (i := 1840) (by decide +kernel)⟩
theorem lw_p130 : lw_okq (⟨"WordFoundryModel", "taken", "()LWordFoundryModel$Mark;"⟩, 31) := ⟨⟨by decide +kernel, by decide +kernel⟩, List.mem_of_getElem? (i := 1464) (by decide +kernel), List.mem_of_getElem? (i := 2037) (by decide +kernel), List.mem_of_getElem? (i := 2038) (by decide +kernel)⟩
theorem lw_p131 : lw_okq (⟨"java/util/ArrayList", "fastRemove", "([Ljava/lang/Object;I)V"⟩, 3) := ⟨⟨by decide +kernel, by decide +kernel⟩, List.mem_of_getElem? (i := 1470) (by decide +kernel), List.mem_of_getElem? (i := 2045) (by decide +kernel), List.mem_of_getElem? (i := 2046) (by decide +kernel)⟩
theorem lw_p132 : lw_okq (⟨"WordFoundryModel", "leads", "(LWordFoundryModel$Mark;)V"⟩, 31) := ⟨⟨by decide +kernel, by decide +kernel⟩, List.mem_of_getElem? (i := 1464) (by decide +kernel), List.mem_of_getElem? (i := 2049) (by decide +kernel), List.mem_of_getElem? (i := 2050) (by decide +kernel)⟩
theorem lw_p133 : lw_okq (⟨"WordFoundryModel", "loops", "(C)V"⟩, 31) := ⟨⟨by decide +kernel, by decide +kernel⟩, List.mem_of_getElem? (i := 1464) (by decide +kernel), List.mem_of_getElem? (i := 2054) (by decide +kernel), List.mem_of_getElem? (i := 2055) (by decide +kernel)⟩
theorem lw_p134 : lw_okq (⟨"WordFoundryModel", "loop", "()LWordFoundryModel$Mark;"⟩, 31) := ⟨⟨by decide +kernel, by decide +kernel⟩, List.mem_of_getElem? (i := 1464) (by decide +kernel), List.mem_of_getElem? (i := 2058) (by decide +kernel), List.mem_of_getElem? (i := 2059) (by decide +kernel)⟩
theorem lw_p135 : lw_okq (⟨"WordFoundryModel", "simple", "(C)V"⟩, 31) := ⟨⟨by decide +kernel, by decide +kernel⟩, List.mem_of_getElem? (i := 1464) (by decide +kernel), List.mem_of_getElem? (i := 2114) (by decide +kernel), List.mem_of_getElem? (i := 2115) (by decide +kernel)⟩
theorem lw_p136 : lw_okq (⟨"WordFoundryModel", "finishes", "(C)V"⟩, 31) := ⟨⟨by decide +kernel, by decide +kernel⟩, List.mem_of_getElem? (i := 1464) (by decide +kernel), List.mem_of_getElem? (i := 2122) (by decide +kernel), List.mem_of_getElem? (i := 2123) (by decide +kernel)⟩
theorem lw_p137 : lw_okq (⟨"WordFoundryModel", "needs", "(I)V"⟩, 31) := ⟨⟨by decide +kernel, by decide +kernel⟩, List.mem_of_getElem? (i := 1464) (by decide +kernel), List.mem_of_getElem? (i := 2126) (by decide +kernel), List.mem_of_getElem? (i := 2127) (by decide +kernel)⟩
theorem lw_p138 : lw_okq (⟨"WordFoundryModel", "top", "(I)I"⟩, 31) := ⟨⟨by decide +kernel, by decide +kernel⟩, List.mem_of_getElem? (i := 1464) (by decide +kernel), List.mem_of_getElem? (i := 2130) (by decide +kernel), List.mem_of_getElem? (i := 2131) (by decide +kernel)⟩
theorem lw_p139 : lw_okq (⟨"WordFoundryModel", "pop", "()I"⟩, 31) := ⟨⟨by decide +kernel, by decide +kernel⟩, List.mem_of_getElem? (i := 1464) (by decide +kernel), List.mem_of_getElem? (i := 2138) (by decide +kernel), List.mem_of_getElem? (i := 2139) (by decide +kernel)⟩
theorem lw_p140 : lw_okq (⟨"WordFoundryModel", "named", "()I"⟩, 31) := ⟨⟨by decide +kernel, by decide +kernel⟩, List.mem_of_getElem? (i := 1464) (by decide +kernel), List.mem_of_getElem? (i := 2142) (by decide +kernel), List.mem_of_getElem? (i := 2143) (by decide +kernel)⟩
theorem lw_p141 : lw_okq (⟨"WordFoundryModel", "entryOf", "(I)I"⟩, 31) := ⟨⟨by decide +kernel, by decide +kernel⟩, List.mem_of_getElem? (i := 1464) (by decide +kernel), List.mem_of_getElem? (i := 2146) (by decide +kernel), List.mem_of_getElem? (i := 2147) (by decide +kernel)⟩
theorem lw_p142 : lw_okq (⟨"WordFoundryModel", "found", "(I)I"⟩, 31) := ⟨⟨by decide +kernel, by decide +kernel⟩, List.mem_of_getElem? (i := 1464) (by decide +kernel), List.mem_of_getElem? (i := 2150) (by decide +kernel), List.mem_of_getElem? (i := 2151) (by decide +kernel)⟩
theorem lw_p143 : lw_okq (⟨"WordFoundryModel", "foundIn", "(II)I"⟩, 31) := ⟨⟨by decide +kernel, by decide +kernel⟩, List.mem_of_getElem? (i := 1464) (by decide +kernel), List.mem_of_getElem? (i := 2154) (by decide +kernel), List.mem_of_getElem? (i := 2155) (by decide +kernel)⟩
def lw_privs_9 : List (MethodName × Nat) := [(⟨"java/util/ArrayList", "rangeCheckForAdd", "(I)V"⟩, 3), (⟨"java/util/ArrayList", "outOfBoundsMsg", "(I)Ljava/lang/String;"⟩, 3), (⟨"WordFoundryModel", "taken", "()LWordFoundryModel$Mark;"⟩, 31), (⟨"java/util/ArrayList", "fastRemove", "([Ljava/lang/Object;I)V"⟩, 3), (⟨"WordFoundryModel", "leads", "(LWordFoundryModel$Mark;)V"⟩, 31), (⟨"WordFoundryModel", "loops", "(C)V"⟩, 31), (⟨"WordFoundryModel", "loop", "()LWordFoundryModel$Mark;"⟩, 31), (⟨"WordFoundryModel", "simple", "(C)V"⟩, 31), (⟨"WordFoundryModel", "finishes", "(C)V"⟩, 31), (⟨"WordFoundryModel", "needs", "(I)V"⟩, 31), (⟨"WordFoundryModel", "top", "(I)I"⟩, 31), (⟨"WordFoundryModel", "pop", "()I"⟩, 31), (⟨"WordFoundryModel", "named", "()I"⟩, 31), (⟨"WordFoundryModel", "entryOf", "(I)I"⟩, 31), (⟨"WordFoundryModel", "found", "(I)I"⟩, 31), (⟨"WordFoundryModel", "foundIn", "(II)I"⟩, 31)]
theorem lw_r9 : ∀ q ∈ lw_privs_9, lw_okq q := List.forall_mem_cons.mpr ⟨lw_p128, List.forall_mem_cons.mpr ⟨lw_p129, List.forall_mem_cons.mpr ⟨lw_p130, List.forall_mem_cons.mpr ⟨lw_p131, List.forall_mem_cons.mpr ⟨lw_p132, List.forall_mem_cons.mpr ⟨lw_p133, List.forall_mem_cons.mpr ⟨lw_p134, List.forall_mem_cons.mpr ⟨lw_p135, List.forall_mem_cons.mpr ⟨lw_p136, List.forall_mem_cons.mpr ⟨lw_p137, List.forall_mem_cons.mpr ⟨lw_p138, List.forall_mem_cons.mpr ⟨lw_p139, List.forall_mem_cons.mpr ⟨lw_p140, List.forall_mem_cons.mpr ⟨lw_p141, List.forall_mem_cons.mpr ⟨lw_p142, List.forall_mem_cons.mpr ⟨lw_p143, fun _ h => absurd h List.not_mem_nil⟩⟩⟩⟩⟩⟩⟩⟩⟩⟩⟩⟩⟩⟩⟩⟩
theorem lw_p144 : lw_okq (⟨"WordFoundryModel", "push", "(I)V"⟩, 31) := ⟨⟨by decide +kernel, by decide +kernel⟩, List.mem_of_getElem? (i := 1464) (by decide +kernel), List.mem_of_getElem? (i := 2159) (by decide +kernel), List.mem_of_getElem? (i := 2160) (by decide +kernel)⟩
theorem lw_p145 : lw_okq (⟨"WordFoundryModel", "postpones", "()V"⟩, 31) := ⟨⟨by decide +kernel, by decide +kernel⟩, List.mem_of_getElem? (i := 1464) (by decide +kernel), List.mem_of_getElem? (i := 2183) (by decide +kernel), List.mem_of_getElem? (i := 2184) (by decide +kernel)⟩
theorem lw_p146 : lw_okq (⟨"WordFoundryModel", "does", "(C)V"⟩, 31) := ⟨⟨by decide +kernel, by decide +kernel⟩, List.mem_of_getElem? (i := 1464) (by decide +kernel), List.mem_of_getElem? (i := 2187) (by decide +kernel), List.mem_of_getElem? (i := 2188) (by decide +kernel)⟩
theorem lw_p147 : lw_okq (⟨"WordFoundryModel", "moves", "(C)V"⟩, 31) := ⟨⟨by decide +kernel, by decide +kernel⟩, List.mem_of_getElem? (i := 1464) (by decide +kernel), List.mem_of_getElem? (i := 2192) (by decide +kernel), List.mem_of_getElem? (i := 2193) (by decide +kernel)⟩
theorem lw_p148 : lw_okq (⟨"WordFoundryModel", "reckons", "(C)V"⟩, 31) := ⟨⟨by decide +kernel, by decide +kernel⟩, List.mem_of_getElem? (i := 1464) (by decide +kernel), List.mem_of_getElem? (i := 2197) (by decide +kernel), List.mem_of_getElem? (i := 2198) (by decide +kernel)⟩
theorem lw_p149 : lw_okq (⟨"WordFoundryModel", "shifts", "(C)V"⟩, 31) := ⟨⟨by decide +kernel, by decide +kernel⟩, List.mem_of_getElem? (i := 1464) (by decide +kernel), List.mem_of_getElem? (i := 2204) (by decide +kernel), List.mem_of_getElem? (i := 2205) (by decide +kernel)⟩
theorem lw_p150 : lw_okq (⟨"WordFoundryModel", "keeps", "(C)V"⟩, 31) := ⟨⟨by decide +kernel, by decide +kernel⟩, List.mem_of_getElem? (i := 1464) (by decide +kernel), List.mem_of_getElem? (i := 2209) (by decide +kernel), List.mem_of_getElem? (i := 2210) (by decide +kernel)⟩
theorem lw_p151 : lw_okq (⟨"WordFoundryModel", "takes", "(C)V"⟩, 31) := ⟨⟨by decide +kernel, by decide +kernel⟩, List.mem_of_getElem? (i := 1464) (by decide +kernel), List.mem_of_getElem? (i := 2215) (by decide +kernel), List.mem_of_getElem? (i := 2216) (by decide +kernel)⟩
theorem lw_p152 : lw_okq (⟨"WordFoundryModel", "run", "(I)V"⟩, 31) := ⟨⟨by decide +kernel, by decide +kernel⟩, List.mem_of_getElem? (i := 1464) (by decide +kernel), List.mem_of_getElem? (i := 2219) (by decide +kernel), List.mem_of_getElem? (i := 2220) (by decide +kernel)⟩
theorem lw_p153 : lw_okq (⟨"WordFoundryModel", "runs", "(III)V"⟩, 31) := ⟨⟨by decide +kernel, by decide +kernel⟩, List.mem_of_getElem? (i := 1464) (by decide +kernel), List.mem_of_getElem? (i := 2223) (by decide +kernel), List.mem_of_getElem? (i := 2224) (by decide +kernel)⟩
theorem lw_p154 : lw_okq (⟨"WordFoundryModel", "does", "(II)V"⟩, 31) := ⟨⟨by decide +kernel, by decide +kernel⟩, List.mem_of_getElem? (i := 1464) (by decide +kernel), List.mem_of_getElem? (i := 2227) (by decide +kernel), List.mem_of_getElem? (i := 2228) (by decide +kernel)⟩
theorem lw_p155 : lw_okq (⟨"WordFoundryModel", "jumps", "(LWordFoundryModel$Op;I)I"⟩, 31) := ⟨⟨by decide +kernel, by decide +kernel⟩, List.mem_of_getElem? (i := 1464) (by decide +kernel), List.mem_of_getElem? (i := 2231) (by decide +kernel), List.mem_of_getElem? (i := 2232) (by decide +kernel)⟩
theorem lw_p156 : lw_okq (⟨"WordFoundryModel", "does", "(LWordFoundryModel$Op;I)V"⟩, 31) := ⟨⟨by decide +kernel, by decide +kernel⟩, List.mem_of_getElem? (i := 1464) (by decide +kernel), List.mem_of_getElem? (i := 2235) (by decide +kernel), List.mem_of_getElem? (i := 2236) (by decide +kernel)⟩
theorem lw_p157 : lw_okq (⟨"WordFoundryModel", "forgets", "(I)V"⟩, 31) := ⟨⟨by decide +kernel, by decide +kernel⟩, List.mem_of_getElem? (i := 1464) (by decide +kernel), List.mem_of_getElem? (i := 2239) (by decide +kernel), List.mem_of_getElem? (i := 2240) (by decide +kernel)⟩
theorem lw_p158 : lw_okq (⟨"WordFoundryModel", "catches", "(I)V"⟩, 31) := ⟨⟨by decide +kernel, by decide +kernel⟩, List.mem_of_getElem? (i := 1464) (by decide +kernel), List.mem_of_getElem? (i := 2243) (by decide +kernel), List.mem_of_getElem? (i := 2244) (by decide +kernel)⟩
theorem lw_p159 : lw_okq (⟨"WordFoundryModel", "tells", "(C)V"⟩, 31) := ⟨⟨by decide +kernel, by decide +kernel⟩, List.mem_of_getElem? (i := 1464) (by decide +kernel), List.mem_of_getElem? (i := 2278) (by decide +kernel), List.mem_of_getElem? (i := 2279) (by decide +kernel)⟩
def lw_privs_10 : List (MethodName × Nat) := [(⟨"WordFoundryModel", "push", "(I)V"⟩, 31), (⟨"WordFoundryModel", "postpones", "()V"⟩, 31), (⟨"WordFoundryModel", "does", "(C)V"⟩, 31), (⟨"WordFoundryModel", "moves", "(C)V"⟩, 31), (⟨"WordFoundryModel", "reckons", "(C)V"⟩, 31), (⟨"WordFoundryModel", "shifts", "(C)V"⟩, 31), (⟨"WordFoundryModel", "keeps", "(C)V"⟩, 31), (⟨"WordFoundryModel", "takes", "(C)V"⟩, 31), (⟨"WordFoundryModel", "run", "(I)V"⟩, 31), (⟨"WordFoundryModel", "runs", "(III)V"⟩, 31), (⟨"WordFoundryModel", "does", "(II)V"⟩, 31), (⟨"WordFoundryModel", "jumps", "(LWordFoundryModel$Op;I)I"⟩, 31), (⟨"WordFoundryModel", "does", "(LWordFoundryModel$Op;I)V"⟩, 31), (⟨"WordFoundryModel", "forgets", "(I)V"⟩, 31), (⟨"WordFoundryModel", "catches", "(I)V"⟩, 31), (⟨"WordFoundryModel", "tells", "(C)V"⟩, 31)]
theorem lw_r10 : ∀ q ∈ lw_privs_10, lw_okq q := List.forall_mem_cons.mpr ⟨lw_p144, List.forall_mem_cons.mpr ⟨lw_p145, List.forall_mem_cons.mpr ⟨lw_p146, List.forall_mem_cons.mpr ⟨lw_p147, List.forall_mem_cons.mpr ⟨lw_p148, List.forall_mem_cons.mpr ⟨lw_p149, List.forall_mem_cons.mpr ⟨lw_p150, List.forall_mem_cons.mpr ⟨lw_p151, List.forall_mem_cons.mpr ⟨lw_p152, List.forall_mem_cons.mpr ⟨lw_p153, List.forall_mem_cons.mpr ⟨lw_p154, List.forall_mem_cons.mpr ⟨lw_p155, List.forall_mem_cons.mpr ⟨lw_p156, List.forall_mem_cons.mpr ⟨lw_p157, List.forall_mem_cons.mpr ⟨lw_p158, List.forall_mem_cons.mpr ⟨lw_p159, fun _ h => absurd h List.not_mem_nil⟩⟩⟩⟩⟩⟩⟩⟩⟩⟩⟩⟩⟩⟩⟩⟩
theorem lw_p160 : lw_okq (⟨"WordFoundryModel", "makes", "(CII)V"⟩, 31) := ⟨⟨by decide +kernel, by decide +kernel⟩, List.mem_of_getElem? (i := 1464) (by decide +kernel), List.mem_of_getElem? (i := 2324) (by decide +kernel), List.mem_of_getElem? (i := 2325) (by decide +kernel)⟩
theorem lw_p161 : lw_okq (⟨"WordFoundryModel", "ends", "(I)V"⟩, 31) := ⟨⟨by decide +kernel, by decide +kernel⟩, List.mem_of_getElem? (i := 1464) (by decide +kernel), List.mem_of_getElem? (i := 2328) (by decide +kernel), List.mem_of_getElem? (i := 2329) (by decide +kernel)⟩
theorem lw_p162 : lw_okq (⟨"WordFoundryModel", "isEntry", "(I)Z"⟩, 31) := ⟨⟨by decide +kernel, by decide +kernel⟩, List.mem_of_getElem? (i := 1464) (by decide +kernel), List.mem_of_getElem? (i := 2380) (by decide +kernel), List.mem_of_getElem? (i := 2381) (by decide +kernel)⟩
theorem lw_p163 : lw_okq (⟨"WordFoundryModel", "isOp", "(II)Z"⟩, 31) := ⟨⟨by decide +kernel, by decide +kernel⟩, List.mem_of_getElem? (i := 1464) (by decide +kernel), List.mem_of_getElem? (i := 2408) (by decide +kernel), List.mem_of_getElem? (i := 2409) (by decide +kernel)⟩
theorem lw_p164 : lw_okq (⟨"WordFoundryModel", "findsEffects", "()V"⟩, 31) := ⟨⟨by decide +kernel, by decide +kernel⟩, List.mem_of_getElem? (i := 1464) (by decide +kernel), List.mem_of_getElem? (i := 2420) (by decide +kernel), List.mem_of_getElem? (i := 2421) (by decide +kernel)⟩
theorem lw_p165 : lw_okq (⟨"WordFoundryModel", "findsEffect", "(IIII)V"⟩, 31) := ⟨⟨by decide +kernel, by decide +kernel⟩, List.mem_of_getElem? (i := 1464) (by decide +kernel), List.mem_of_getElem? (i := 2424) (by decide +kernel), List.mem_of_getElem? (i := 2425) (by decide +kernel)⟩
theorem lw_p166 : lw_okq (⟨"WordFoundryModel", "goesOn", "(ILjava/util/ArrayList;I)Z"⟩, 31) := ⟨⟨by decide +kernel, by decide +kernel⟩, List.mem_of_getElem? (i := 1464) (by decide +kernel), List.mem_of_getElem? (i := 2428) (by decide +kernel), List.mem_of_getElem? (i := 2429) (by decide +kernel)⟩
theorem lw_p167 : lw_okq (⟨"WordFoundryModel", "hasEffect", "(LWordFoundryModel$Op;)Z"⟩, 31) := ⟨⟨by decide +kernel, by decide +kernel⟩, List.mem_of_getElem? (i := 1464) (by decide +kernel), List.mem_of_getElem? (i := 2432) (by decide +kernel), List.mem_of_getElem? (i := 2433) (by decide +kernel)⟩
theorem lw_p168 : lw_okq (⟨"WordFoundryModel", "hasEffect", "(C)Z"⟩, 31) := ⟨⟨by decide +kernel, by decide +kernel⟩, List.mem_of_getElem? (i := 1464) (by decide +kernel), List.mem_of_getElem? (i := 2436) (by decide +kernel), List.mem_of_getElem? (i := 2437) (by decide +kernel)⟩
def lw_privs_11 : List (MethodName × Nat) := [(⟨"WordFoundryModel", "makes", "(CII)V"⟩, 31), (⟨"WordFoundryModel", "ends", "(I)V"⟩, 31), (⟨"WordFoundryModel", "isEntry", "(I)Z"⟩, 31), (⟨"WordFoundryModel", "isOp", "(II)Z"⟩, 31), (⟨"WordFoundryModel", "findsEffects", "()V"⟩, 31), (⟨"WordFoundryModel", "findsEffect", "(IIII)V"⟩, 31), (⟨"WordFoundryModel", "goesOn", "(ILjava/util/ArrayList;I)Z"⟩, 31), (⟨"WordFoundryModel", "hasEffect", "(LWordFoundryModel$Op;)Z"⟩, 31), (⟨"WordFoundryModel", "hasEffect", "(C)Z"⟩, 31)]
theorem lw_r11 : ∀ q ∈ lw_privs_11, lw_okq q := List.forall_mem_cons.mpr ⟨lw_p160, List.forall_mem_cons.mpr ⟨lw_p161, List.forall_mem_cons.mpr ⟨lw_p162, List.forall_mem_cons.mpr ⟨lw_p163, List.forall_mem_cons.mpr ⟨lw_p164, List.forall_mem_cons.mpr ⟨lw_p165, List.forall_mem_cons.mpr ⟨lw_p166, List.forall_mem_cons.mpr ⟨lw_p167, List.forall_mem_cons.mpr ⟨lw_p168, fun _ h => absurd h List.not_mem_nil⟩⟩⟩⟩⟩⟩⟩⟩⟩
def lw_privs : List (MethodName × Nat) := lw_privs_1 ++ (lw_privs_2 ++ (lw_privs_3 ++ (lw_privs_4 ++ (lw_privs_5 ++ (lw_privs_6 ++ (lw_privs_7 ++ (lw_privs_8 ++ (lw_privs_9 ++ (lw_privs_10 ++ (lw_privs_11))))))))))
def lw_tbl : List Cond := k2_sels lw_privs ++ tables_1
theorem lw_privs_ok : ∀ q ∈ lw_privs, lw_okq q := by
  show ∀ q ∈ lw_privs_1 ++ (lw_privs_2 ++ (lw_privs_3 ++ (lw_privs_4 ++ (lw_privs_5 ++ (lw_privs_6 ++ (lw_privs_7 ++ (lw_privs_8 ++ (lw_privs_9 ++ (lw_privs_10 ++ (lw_privs_11)))))))))), lw_okq q
  exact List.forall_mem_append.mpr ⟨lw_r1, List.forall_mem_append.mpr ⟨lw_r2, List.forall_mem_append.mpr ⟨lw_r3, List.forall_mem_append.mpr ⟨lw_r4, List.forall_mem_append.mpr ⟨lw_r5, List.forall_mem_append.mpr ⟨lw_r6, List.forall_mem_append.mpr ⟨lw_r7, List.forall_mem_append.mpr ⟨lw_r8, List.forall_mem_append.mpr ⟨lw_r9, List.forall_mem_append.mpr ⟨lw_r10, lw_r11⟩⟩⟩⟩⟩⟩⟩⟩⟩⟩
/-- the streams that the claim lets the run draw from -/
abbrev lw_cs : List Choice := [Jvm.Choice.named "NaN.bits"]
theorem lw_bits : nanBits ∈ lw_cs := by first | decide | exact List.mem_cons_self | simp [lw_cs, nanBits]
end
section
/-! ===== BEGIN words of one list among another's, by their places ===== -/
theorem goodIn_r {big : List Cond} (ws : List Cond) (ps : List Nat) (hp : ws = ps.filterMap (fun i => big[i]?)) (h : ws.all goodWord = true) : GoodIn big ws := by
  intro w hw
  have h1 := List.all_eq_true.mp h w hw
  rw [hp] at hw
  obtain ⟨i, -, hi⟩ := List.mem_filterMap.mp hw
  have hm : w ∈ big := by first | exact List.mem_of_getElem? hi | exact List.getElem?_mem hi
  exact ⟨hm, good_of_word h1⟩
theorem goodIn_app {big a b : List Cond} (ha : GoodIn big a) (hb : GoodIn big b) : GoodIn big (a ++ b) := fun w h => (List.mem_append.mp h).elim (ha w) (hb w)
theorem goodIn_ca {big a b : List Cond} {c : Cond} (ha : GoodIn big (c :: a)) (hb : GoodIn big b) : GoodIn big (c :: (a ++ b)) := fun w h => (List.mem_cons.mp h).elim (fun e => ha w (List.mem_cons.mpr (Or.inl e))) (fun h => (List.mem_append.mp h).elim (fun h => ha w (List.mem_cons.mpr (Or.inr h))) (hb w))
theorem goodIn_sub {big ws : List Cond} (hm : ∀ w ∈ ws, w ∈ big) (h : ws.all goodWord = true) : GoodIn big ws := fun w hw => ⟨hm w hw, good_of_word (List.all_eq_true.mp h w hw)⟩
/-! ===== END ===== -/

/-! ===== BEGIN exceptions that leave a method, and their catching by the caller (launches without stack traces) ===== -/
section VXA
/-! The laws vx_back, vx_callV, vx_callS, vx_callSW, vx_throw0, vx_throwS follow proofs of the library, with one case more: JvmDerived/Free/Laws.lean (Back.of_free), Shelf42/LK1.lean (callV, callS), Shelf/KitTraced.lean (throwNew0V, throwNewS). -/
/-- where a method has thrown q: the class by its name, the cell, what was written, the world -/
def vx_T (XC : String → State → State → Prop) (st : State) (q : Addr) (t : State) (mc ms : Nat) (free : Addr → Prop) : Prop :=
  ∃ (E : String) (ce : Cell) (L : List Loc), XC E st t ∧ t.heap[q]? = some ce ∧ ce.vm = .none ∧ st.vm.findClass E = some ce.cls ∧ st.WarmedH t.vm ∧ st.sameButNew ({ t with vm := st.vm } : State) L mc ms ∧ ∀ z ∈ L, free z.base
def vx_Q (Qc : Array Value → State → Outcome → State → Prop) (XC : String → State → State → Prop) (mc ms : Nat) (free : Addr → Prop) : Array Value → State → Outcome → State → Prop := fun a st o t =>
  (Qc a st o t ∧ ∃ L, FrameEnd st o t L mc ms ∧ ∀ q ∈ L, free q.base) ∨ ∃ q, o = .threw q ∧ vx_T XC st q t mc ms free
/-- a callee that returns or throws -/
def vx_Met (l : Launch) (y : MethodName) (ws : List Cond) (rm : Room) (Pc : Array Value → State → Prop) (Qc : Array Value → State → Outcome → State → Prop) (XC : String → State → State → Prop) (mc ms : Nat) (free : Addr → Prop) : Prop :=
  MetFree l y (headSpec ws rm) Pc (fun _ _ _ _ _ => True) (vx_Q Qc XC mc ms free)
def vx_Post (XC : String → State → State → Prop) (mc ms : Nat) (free : Addr → Prop) : Pt → Array Value → Addr → Pt → Prop := fun A a q B =>
  ∃ (g : JFrame) (mk : MethodId) (t : State) (L : List Loc) (E : String) (ce : Cell), B.U.heap = t.heap ∧ B.U.vm = t.vm ∧ XC E (A.U.calling g mk a) t ∧ t.heap[q]? = some ce ∧ ce.vm = .none ∧ A.U.vm.findClass E = some ce.cls ∧ B.locs = A.locs ++ L ∧ (∀ z ∈ L, free z.base) ∧ B.cells = A.cells + mc ∧ B.slots = A.slots + ms
def vx_Back (l : Launch) (R : Room) (p : Program) (e : Env) (below : List Frame) (s : State) (sargs : Array Value) (y : MethodName) (len W9 : Nat)
    (Pre : Pt → Array Value → Prop) (Post : Pt → Array Value → Option Value → Pt → Prop) (PostX : Pt → Array Value → Addr → Pt → Prop) : Prop :=
  ∀ (m : MethodId) (meth : Method) (c : Code) (A : Pt) (g : JFrame) (ig : Instr) (mk : MethodId) (a : Array Value),
    Stand p l e R s m sargs below meth c A.U A.locs A.cells A.slots → g.method = m → g.locals.size = c.maxLocals → decode c.code g.pc = .ok (ig, len) →
    2 * g.monitorRoom + (g.stack.map fun v => v.category).sum ≤ W9 → A.U.methodNamed? y = some mk → Pre A a →
    (∃ (v : Option Value) (B : Pt), Stand p l e R s m sargs below meth c B.U B.locs B.cells B.slots ∧ Post A a v B ∧
      Steps p.tables e below (doInvoke e (A.U.setTop g) [] mk a).1 (B.U.setTop { g with pc := g.pc + len, stack := v.toList ++ g.stack })) ∨
    (∃ (q : Addr) (B : Pt), Stand p l e R s m sargs below meth c B.U B.locs B.cells B.slots ∧ PostX A a q B ∧
      Steps p.tables e below (doInvoke e (A.U.setTop g) [] mk a).1 ((B.U.setTop g).pushFrame (.throwing q)))
section Payer
variable {l : Launch} {R : Room} {p : Program} {e : Env} {below : List Frame} {s : State} {sargs : Array Value} {y : MethodName} {len W9 : Nat}
theorem vx_back {ws : List Cond} {rm : Room} {Pc : Array Value → State → Prop} {Qc : Array Value → State → Outcome → State → Prop} {XC : String → State → State → Prop} {mc ms : Nat} {free : Addr → Prop} {bytes : ByteArray} {maxL : Nat} {ret : Option FieldType}
    (hM : vx_Met l y ws rm Pc Qc XC mc ms free) (hblind : FrameBlind Pc) (hrc : rm.cells = mc) (hrs : rm.slots = ms)
    (hframes : rm.frames + 1 ≤ R.frames) (hlocals : W9 + (maxL + 11) + rm.locals ≤ R.locals)
    (hws : ∀ w ∈ ws, ∀ a' U, s.WarmedH U.vm → w.before a' U = true) (hcode : Cond.code y bytes maxL ret ∈ ws) (hinit : ∀ a' U, s.WarmedH U.vm → (Cond.initialized y.cls).before a' U = true) :
    vx_Back l R p e below s sargs y len W9 (PreOf R mc ms Pc) (PostOf Qc mc ms free) (vx_Post XC mc ms free) := by
  intro m meth c A g ig mk a X hg hsize hdg hW hn hp
  have h1 : (headSpec ws rm).pre.before a A.U = true := atoms_intro fun w hw => hws w hw _ _ X.warmed
  have h2 : (Cond.code y bytes maxL ret).before a A.U = true := hws _ hcode _ _ X.warmed
  have h3 : (Cond.initialized y.cls).before a A.U = true := hinit _ _ X.warmed
  have h4 : A.cells + (headSpec ws rm).room.cells ≤ R.cells := by rw [show (headSpec ws rm).room.cells = mc from hrc]; exact hp.1
  have h5 : A.slots + (headSpec ws rm).room.slots ≤ R.slots := by rw [show (headSpec ws rm).room.slots = ms from hrs]; exact hp.2.1
  have hPc : Pc a (A.U.calling g mk a) := hblind _ _ _ _ hp.2.2
  obtain ⟨U, Ls, c0, s0⟩ := A
  dsimp only [Pt.U, Pt.locs, Pt.cells, Pt.slots] at h1 h2 h3 h4 h5 X hn hPc ⊢
  obtain ⟨methY, cY, hmY, hcY, -, hlY, -, -, -, -⟩ := Cond.code_spec hn h2
  obtain ⟨kY, hkY, -⟩ := className_of_methodNamed hn
  have hinitY : kY.init = .initialized := Cond.initialized_spec (findClass_of_methodNamed hn) hkY h3
  have h : At U g.method c below := by rw [hg]; exact X.here
  have hlocals9 : W9 + (maxL + 11) + (headSpec ws rm).room.locals ≤ R.locals := hlocals
  have happ : (headSpec ws rm).appliesLoose y e.platform (U.calling g mk a) = true :=
    Spec.appliesLoose_calling (g := g) h hdg hn hkY hinitY
      (X.room_calling (g := g) (R' := (headSpec ws rm).room) hsize hmY hcY hframes (by rw [hlY]; omega) h4 h5) h1
  obtain ⟨mid, hmid⟩ := h.above
  have hfr : (U.setTop g).frames = (.java g :: mid) ++ below := by rw [State.frames_setTop' g h.top, hmid]; rfl
  obtain ⟨o, s₂, hsteps, -, hend, hq⟩ := Steps.callFree hM p X.admits X.cas X.clock (acts := []) hfr happ hPc trivial
  have hq' : vx_Q Qc XC mc ms free a (U.calling g mk a) o s₂ := hq
  rw [State.frames_setTop' g h.top] at hend
  obtain ⟨g₀, hg0⟩ := Option.isSome_iff_exists.mp h.top
  obtain ⟨r, hr⟩ := State.topJava?_eq_some.mp hg0
  have hr' : (({ U with heap := s₂.heap, slotsUsed := s₂.slotsUsed } : State).setVm s₂.vm).frames = .java g₀ :: r := hr
  rcases hq' with ⟨hqc, L, hfe, hL⟩ | ⟨q, rfl, E, ce, L, hx, hce, hcv, hcl, hW₂, hsm, hL⟩
  · obtain ⟨⟨v, rfl⟩, hW₂, e2, q2, q3, q4, q5, q6⟩ := id hfe
    have e3 : s₂ = ({ (U.calling g mk a).setFrames s₂.frames with heap := s₂.heap, slotsUsed := s₂.slotsUsed } : State).setVm s₂.vm := by
      have : s₂ = ({ s₂ with vm := (U.calling g mk a).vm } : State).setVm s₂.vm := rfl
      rw [e2] at this
      exact this
    obtain ⟨c₂, i₂, len₂, hc₂, hd₂, hf₂⟩ := hend
    have hW' : U.WarmedH s₂.vm := hW₂
    have hcc : c₂ = c := by
      have h1 : s₂.code? g.method = U.code? g.method := by
        rw [State.code?_eq, State.code?_eq, hW'.alike.method?]
      exact Option.some.inj (hc₂.symm.trans (h1.trans h.code))
    subst hcc
    have hlen : len₂ = len := by rw [hdg] at hd₂; cases hd₂; rfl
    subst hlen
    have hs₂ : s₂ = (({ U with heap := s₂.heap, slotsUsed := s₂.slotsUsed } : State).setVm s₂.vm).setTop { g with pc := g.pc + len₂, stack := v.toList ++ g.stack } := by
      refine e3.trans ?_
      rw [hf₂, State.calling_eq h.top, State.setFrames_setFrames, State.setTop_of_frames _ hr', hr]
      rfl
    have hsame : U.sameButNew ({ U with heap := s₂.heap, slotsUsed := s₂.slotsUsed } : State) L mc ms := by
      refine ⟨?_, q2, q3, q4, q5, q6⟩
      obtain ⟨t, ht, -⟩ := State.frames_cons hr
      show ({ U with heap := s₂.heap, slotsUsed := s₂.slotsUsed } : State) = { U.setFrames U.frames with heap := s₂.heap, slotsUsed := s₂.slotsUsed }
      rw [State.setFrames_self ht]
    subst hg
    refine Or.inl ⟨v, ⟨(({ U with heap := s₂.heap, slotsUsed := s₂.slotsUsed } : State).setVm s₂.vm), Ls ++ L, c0 + mc, s0 + ms⟩,
      ⟨X.admits, X.cas, X.clock, X.frames, X.room, X.hears, X.method, X.code, (X.here.setHeapUsed s₂.heap s₂.slotsUsed).setVm hW'.alike, X.tail, State.WarmedH.trans X.warmed hW', X.limits, X.bytes, X.same.trans (hsame.setVm s.vm)⟩,
      ⟨g, mk, s₂, L, rfl, rfl, hqc, rfl, hL, rfl, rfl⟩, ?_⟩
    show Steps p.tables e below _ ((({ U with heap := s₂.heap, slotsUsed := s₂.slotsUsed } : State).setVm s₂.vm).setTop { g with pc := g.pc + len₂, stack := v.toList ++ g.stack })
    rw [← hs₂]
    exact hsteps
  · obtain ⟨e2, q2, q3, q4, q5, q6⟩ := id hsm
    have e3 : s₂ = ({ (U.calling g mk a).setFrames s₂.frames with heap := s₂.heap, slotsUsed := s₂.slotsUsed } : State).setVm s₂.vm := by
      have : s₂ = ({ s₂ with vm := (U.calling g mk a).vm } : State).setVm s₂.vm := rfl
      rw [e2] at this
      exact this
    have hf₂ : s₂.frames = .throwing q :: .java g :: U.frames.tail := hend
    have hW' : U.WarmedH s₂.vm := hW₂
    have hs₂ : s₂ = ((({ U with heap := s₂.heap, slotsUsed := s₂.slotsUsed } : State).setVm s₂.vm).setTop g).pushFrame (.throwing q) := by
      refine e3.trans ?_
      rw [hf₂, State.calling_eq h.top, State.setFrames_setFrames, State.pushFrame, State.frames_setTop _ hr', State.setTop_of_frames _ hr', State.setFrames_setFrames, hr]
      rfl
    have hsame : U.sameButNew ({ U with heap := s₂.heap, slotsUsed := s₂.slotsUsed } : State) L mc ms := by
      refine ⟨?_, q2, q3, q4, q5, q6⟩
      obtain ⟨t, ht, -⟩ := State.frames_cons hr
      show ({ U with heap := s₂.heap, slotsUsed := s₂.slotsUsed } : State) = { U.setFrames U.frames with heap := s₂.heap, slotsUsed := s₂.slotsUsed }
      rw [State.setFrames_self ht]
    subst hg
    refine Or.inr ⟨q, ⟨(({ U with heap := s₂.heap, slotsUsed := s₂.slotsUsed } : State).setVm s₂.vm), Ls ++ L, c0 + mc, s0 + ms⟩,
      ⟨X.admits, X.cas, X.clock, X.frames, X.room, X.hears, X.method, X.code, (X.here.setHeapUsed s₂.heap s₂.slotsUsed).setVm hW'.alike, X.tail, State.WarmedH.trans X.warmed hW', X.limits, X.bytes, X.same.trans (hsame.setVm s.vm)⟩,
      ⟨g, mk, s₂, L, E, ce, rfl, rfl, hx, hce, hcv, hcl, rfl, hL, rfl, rfl⟩, ?_⟩
    show Steps p.tables e below _ (((({ U with heap := s₂.heap, slotsUsed := s₂.slotsUsed } : State).setVm s₂.vm).setTop g).pushFrame (.throwing q))
    rw [← hs₂]
    exact hsteps
end Payer
section Calls
variable {p : Program} {l : Launch} {e : Env} {R : Room} {s : State} {m : MethodId} {args : Array Value} {below : List Frame} {meth : Method} {c : Code} {T : State} {locs : List Loc} {cells slots : Nat}
theorem vx_callV (X : Stand p l e R s m args below meth c T locs cells slots) (hexec : p.tables.exec = Jvm.exec) {own C : String} {index : Nat} {y : MethodName} {bytes : ByteArray} {maxL : Nat} {ret : Option FieldType}
    (hown : s.vm.findClass own = some m.cls) (hlink : (Cond.methodLink own index y).before args s = true) (hinst : (Cond.instanceMethod y).before args s = true) (hsel : (Cond.selects C y y).before args s = true)
    (hcode : (Cond.code y bytes maxL ret).before args s = true) (hy : y.cls ≠ "java/lang/invoke/MethodHandle" ∧ y.cls ≠ "java/lang/invoke/VarHandle")
    {W9 : Nat} {Pre : Pt → Array Value → Prop} {Post : Pt → Array Value → Option Value → Pt → Prop} {PostX : Pt → Array Value → Addr → Pt → Prop} (hK : vx_Back l R p e below s args y 3 W9 Pre Post PostX)
    {b : Addr} {cellB : Cell} (hcell : T.heap[b]? = some cellB) (hobj : cellB.vm.isStatics = false) (hcls : s.vm.findClass C = some cellB.cls)
    {g : JFrame} (hg : g.method = m) (hsize : g.locals.size = c.maxLocals) {argsL rest : List Value} (hlen : ∀ sig, parseMethodDescriptor y.desc = some sig → argsL.length = sig.parameters.length)
    (hstack : g.stack = argsL.reverse ++ .ref b :: rest) (hW : 2 * g.monitorRoom + (rest.map fun v => v.category).sum ≤ W9) (hdg : decode c.code g.pc = .ok (.invokevirtual index, 3))
    (hpre : ∀ vm₁, s.WarmedH vm₁ → Pre ⟨T.setVm vm₁, locs, cells, slots⟩ (Value.ref b :: argsL).toArray) :
    (∃ (v : Option Value) (vm₁ : Vm) (B : Pt), s.WarmedH vm₁ ∧ Stand p l e R s m args below meth c B.U B.locs B.cells B.slots ∧ Post ⟨T.setVm vm₁, locs, cells, slots⟩ (Value.ref b :: argsL).toArray v B ∧
      ∀ target, Steps p.tables e below (B.U.setTop { g with pc := g.pc + 3, stack := v.toList ++ rest }) target → Steps p.tables e below (T.setTop g) target) ∨
    (∃ (q : Addr) (vm₁ : Vm) (B : Pt), s.WarmedH vm₁ ∧ Stand p l e R s m args below meth c B.U B.locs B.cells B.slots ∧ PostX ⟨T.setVm vm₁, locs, cells, slots⟩ (Value.ref b :: argsL).toArray q B ∧
      Steps p.tables e below (T.setTop g) ((B.U.setTop { g with stack := rest }).pushFrame (.throwing q))) := by
  obtain ⟨mk, methM, hnamed, hmethM, hstM, habM⟩ := Cond.instanceMethod_spec hinst
  obtain ⟨methM', cM, hmethM', -, -, -, -, -, -, hsigM⟩ := Cond.code_spec hnamed hcode
  cases hmethM.symm.trans hmethM'
  obtain ⟨c2, r2, m2, q1, q2, q3, q4, kP, hkP, hkPi⟩ := Cond.selects_spec hsel
  cases hcls.symm.trans q1
  cases (State.methodFound?_of_named hnamed hy).symm.trans q2
  cases hnamed.symm.trans q3
  have hselP : selectMethod e.platform s.vm cellB.cls mk = .method mk := by rw [Launch.admits_selectMethod X.admits]; exact q4
  obtain ⟨vm₁, X₁, hstep₁⟩ := X.invokevirtual hexec hown hlink hnamed hmethM hstM hkP hkPi hy (a := b) (cell := cellB) hcell
    (fun z h => by rw [h] at hobj; cases hobj) hselP hmethM habM hkP hkPi (g := g) hg (argsL := argsL) (rest := rest) (hlen _ hsigM) hstack hdg
  rcases hK m meth c ⟨T.setVm vm₁, locs, cells, slots⟩ { g with stack := rest } (.invokevirtual index) mk (Value.ref b :: argsL).toArray X₁ hg hsize hdg hW (X₁.named hnamed) (hpre vm₁ X₁.warmed) with ⟨v, B, X', hpost, hsteps⟩ | ⟨q, B, X', hpost, hsteps⟩
  · exact Or.inl ⟨v, vm₁, B, X₁.warmed, X', hpost, fun target h => hstep₁ _ fun acts => by rw [doInvoke_state]; exact hsteps.trans h⟩
  · exact Or.inr ⟨q, vm₁, B, X₁.warmed, X', hpost, hstep₁ _ fun acts => by rw [doInvoke_state]; exact hsteps⟩
theorem vx_callS (X : Stand p l e R s m args below meth c T locs cells slots) (hexec : p.tables.exec = Jvm.exec) {own : String} {index : Nat} {y : MethodName} {bytes : ByteArray} {maxL : Nat} {ret : Option FieldType}
    (hown : s.vm.findClass own = some m.cls) (hlink : (Cond.methodLink own index y).before args s = true) (hstat : (Cond.static y).before args s = true) (hinit : (Cond.initialized y.cls).before args s = true)
    (hcode : (Cond.code y bytes maxL ret).before args s = true) (hy : y.cls ≠ "java/lang/invoke/MethodHandle" ∧ y.cls ≠ "java/lang/invoke/VarHandle")
    {W9 : Nat} {Pre : Pt → Array Value → Prop} {Post : Pt → Array Value → Option Value → Pt → Prop} {PostX : Pt → Array Value → Addr → Pt → Prop} (hK : vx_Back l R p e below s args y 3 W9 Pre Post PostX)
    {g : JFrame} (hg : g.method = m) (hsize : g.locals.size = c.maxLocals) {argsL rest : List Value} (hlen : ∀ sig, parseMethodDescriptor y.desc = some sig → argsL.length = sig.parameters.length)
    (hstack : g.stack = argsL.reverse ++ rest) (hW : 2 * g.monitorRoom + (rest.map fun v => v.category).sum ≤ W9) (hdg : decode c.code g.pc = .ok (.invokestatic index, 3))
    (hpre : ∀ vm₁, s.WarmedH vm₁ → Pre ⟨T.setVm vm₁, locs, cells, slots⟩ argsL.toArray) :
    (∃ (v : Option Value) (vm₁ : Vm) (B : Pt), s.WarmedH vm₁ ∧ Stand p l e R s m args below meth c B.U B.locs B.cells B.slots ∧ Post ⟨T.setVm vm₁, locs, cells, slots⟩ argsL.toArray v B ∧
      ∀ target, Steps p.tables e below (B.U.setTop { g with pc := g.pc + 3, stack := v.toList ++ rest }) target → Steps p.tables e below (T.setTop g) target) ∨
    (∃ (q : Addr) (vm₁ : Vm) (B : Pt), s.WarmedH vm₁ ∧ Stand p l e R s m args below meth c B.U B.locs B.cells B.slots ∧ PostX ⟨T.setVm vm₁, locs, cells, slots⟩ argsL.toArray q B ∧
      Steps p.tables e below (T.setTop g) ((B.U.setTop { g with stack := rest }).pushFrame (.throwing q))) := by
  obtain ⟨mk, hnamed⟩ := Cond.code_named hcode
  obtain ⟨methM, cM, hmethM, -, -, -, -, -, -, hsigM⟩ := Cond.code_spec hnamed hcode
  have hstatic : methM.isStatic = true := Cond.static_spec hnamed hmethM hstat
  obtain ⟨kP, hkP, -⟩ := className_of_methodNamed hnamed
  have hinitP : kP.init = .initialized := Cond.initialized_spec (findClass_of_methodNamed hnamed) hkP hinit
  obtain ⟨vm₁, X₁, hstep₁⟩ := X.invokestatic hexec hown hlink hnamed hmethM hstatic hkP hinitP hy (g := g) hg (argsL := argsL) (rest := rest) (hlen _ hsigM) hstack hdg
  rcases hK m meth c ⟨T.setVm vm₁, locs, cells, slots⟩ { g with stack := rest } (.invokestatic index) mk argsL.toArray X₁ hg hsize hdg hW (X₁.named hnamed) (hpre vm₁ X₁.warmed) with ⟨v, B, X', hpost, hsteps⟩ | ⟨q, B, X', hpost, hsteps⟩
  · exact Or.inl ⟨v, vm₁, B, X₁.warmed, X', hpost, fun target h => hstep₁ _ fun acts => by rw [doInvoke_state]; exact hsteps.trans h⟩
  · exact Or.inr ⟨q, vm₁, B, X₁.warmed, X', hpost, hstep₁ _ fun acts => by rw [doInvoke_state]; exact hsteps⟩
end Calls
theorem vx_cls {s : State} {T : State} {vm₁ : Vm} {E : String} {k : ClassId} (hW : s.WarmedH vm₁) (h : (T.setVm vm₁).vm.findClass E = some k) : s.vm.findClass E = some k := by
  have h1 : vm₁.findClass E = some k := h
  rw [hW.alike.findClass] at h1
  exact h1
/-- the method's frame g, with q thrown over it -/
def vx_W (p : Program) (l : Launch) (e : Env) (R : Room) (s : State) (m : MethodId) (args : Array Value) (below : List Frame) (meth : Method) (c : Code) (H : Heap) (locs : List Loc) (cells slots : Nat) (Q : State → Prop) (g : JFrame) (q : Addr) : Prop :=
  ∀ T : State, T.heap = H → Stand p l e R s m args below meth c T locs cells slots → ∃ t, Steps p.tables e below ((T.setTop g).pushFrame (.throwing q)) t ∧ Q t
def vx_Run (p : Program) (l : Launch) (e : Env) (R : Room) (s : State) (m : MethodId) (args : Array Value) (below : List Frame) (meth : Method) (c : Code) (H : Heap) (locs : List Loc) (cells slots mc ms : Nat) (g : JFrame) (rest : List Value) (Qa : State → Outcome → State → Prop) (XC : String → State → State → Prop) (free : Addr → Prop) : Prop :=
  ∀ T : State, T.heap = H → Stand p l e R s m args below meth c T locs cells slots →
    (∃ (v : Option Value) (st₀ t T' : State) (L : List Loc), st₀.heap = H ∧ Stand p l e R s m args below meth c T' (locs ++ L) (cells + mc) (slots + ms) ∧ (∀ q ∈ L, free q.base) ∧ T'.heap = t.heap ∧ T'.vm = t.vm ∧ Qa st₀ (.returned v) t ∧
      Goes p e below T g T' { g with pc := g.pc + 3, stack := v.toList ++ rest }) ∨
    (∃ (q : Addr) (st₀ t T' : State) (L : List Loc) (E : String) (ce : Cell), st₀.heap = H ∧ Stand p l e R s m args below meth c T' (locs ++ L) (cells + mc) (slots + ms) ∧ (∀ z ∈ L, free z.base) ∧ T'.heap = t.heap ∧ T'.vm = t.vm ∧ XC E st₀ t ∧ t.heap[q]? = some ce ∧ ce.vm = .none ∧ s.vm.findClass E = some ce.cls ∧
      Steps p.tables e below (T.setTop g) ((T'.setTop { g with stack := rest }).pushFrame (.throwing q)))
def vx_X {S : Type} (px : S → Prop) (B : String → S → State → Prop) (A : Nat → Prop) : String → State → State → Prop := fun E st t => ∃ u : S, px u ∧ B E u t ∧ va_F A st t
section Runs
variable {p : Program} {l : Launch} {e : Env} {R : Room} {s : State} {m : MethodId} {args : Array Value} {below : List Frame} {meth : Method} {c : Code} {H : Heap} {locs : List Loc} {cells slots : Nat}
variable {y : MethodName} {bytes cc : ByteArray} {maxL nL mc ms n index : Nat} {ret : Option FieldType} {ws : List Cond} {rm : Room} {Pc : Array Value → State → Prop} {Qc : Array Value → State → Outcome → State → Prop} {XC : String → State → State → Prop} {free : Addr → Prop} {Ts : List Cond} {own C : String} {b : Addr} {As rest : List Value} {g : JFrame}
theorem vx_callBack (cb : CallB R s args own index y bytes maxL ret ws rm mc ms n) (hM : vx_Met l y ws rm Pc Qc XC mc ms free) (hbl : FrameBlind Pc) : vx_Back l R p e below s args y 3 8 (PreOf R mc ms Pc) (PostOf Qc mc ms free) (vx_Post XC mc ms free) := by
  obtain ⟨hrc, hrs, hfr, hlo, hws, hcw, -, hini, -⟩ := cb
  exact vx_back (bytes := bytes) (maxL := maxL) (ret := ret) hM hbl hrc hrs hfr hlo hws hcw (fun a' U hW => word_at hW (Or.inl (by first | rfl | simp [Cond.onTables, Cond.keeps, Cond.steady])) hini)
theorem vx_runV (S : CallFix p m c cc nL s args Ts own) (hM : vx_Met l y ws rm Pc Qc XC mc ms free) (cw : CallW R s args own C index y bytes maxL ret ws rm mc ms n) (hp : PreV s H C b Pc As)
    (hg : g.method = m) (hn : As.length = n) (hsize : g.locals.size = nL) (hstack : g.stack = As.reverse ++ .ref b :: rest) (hW : 2 * g.monitorRoom + (rest.map fun v => v.category).sum ≤ 8) (hdg : decode cc g.pc = .ok (.invokevirtual index, 3)) (hf : cells + mc ≤ R.cells ∧ slots + ms ≤ R.slots) :
    vx_Run p l e R s m args below meth c H locs cells slots mc ms g rest (Qc (Value.ref b :: As).toArray) XC free := by
  have hK : vx_Back l R p e below s args y 3 8 (PreOf R mc ms Pc) (PostOf Qc mc ms free) (vx_Post XC mc ms free) := vx_callBack cw.1 hM hp.1
  obtain ⟨⟨-, -, -, -, -, -, hcode, -, hy, hlen, hl⟩, hin, hse⟩ := cw
  obtain ⟨hx, hb, hml, ho, -⟩ := S
  obtain ⟨-, ⟨cellB, hcB, hoB, hclB⟩, hPc⟩ := hp
  intro T hT X
  rcases vx_callV X hx (C := C) (bytes := bytes) (maxL := maxL) (ret := ret) ho hl hin hse hcode hy hK (by rw [hT]; exact hcB) hoB hclB hg (hsize.trans hml.symm) (argsL := As) (rest := rest) (fun sig h => hn.trans (hlen sig h)) hstack hW (by rw [hb]; exact hdg)
    (fun vm₁ hW₁ => ⟨hf.1, hf.2, hPc (T.setVm vm₁) hT hW₁⟩) with ⟨v, vm₁, ⟨U', l2, c2, s2⟩, hW₁, X', ⟨g', mk, t, L, e1, e2, hq, h1, hL, h2, h3⟩, st⟩ | ⟨q, vm₁, ⟨U', l2, c2, s2⟩, hW₁, X', ⟨g', mk, t, L, E, ce, e1, e2, hq, hce, hcv, hcl, h1, hL, h2, h3⟩, st⟩
  · dsimp only [Pt.U, Pt.locs, Pt.cells, Pt.slots] at X' e1 e2 h1 h2 h3 st
    subst h1; subst h2; subst h3
    exact Or.inl ⟨v, (T.setVm vm₁).calling g' mk (Value.ref b :: As).toArray, t, U', L, hT, X', hL, e1, e2, hq, st⟩
  · dsimp only [Pt.U, Pt.locs, Pt.cells, Pt.slots] at X' e1 e2 h1 h2 h3 st hcl
    subst h1; subst h2; subst h3
    exact Or.inr ⟨q, (T.setVm vm₁).calling g' mk (Value.ref b :: As).toArray, t, U', L, E, ce, hT, X', hL, e1, e2, hq, hce, hcv, vx_cls hW₁ hcl, st⟩
theorem vx_runS (S : CallFix p m c cc nL s args Ts own) (hM : vx_Met l y ws rm Pc Qc XC mc ms free) (cw : CallB R s args own index y bytes maxL ret ws rm mc ms n ∧ (Cond.static y).before args s = true) (hp : PreS s H Pc As)
    (hg : g.method = m) (hn : As.length = n) (hsize : g.locals.size = nL) (hstack : g.stack = As.reverse ++ rest) (hW : 2 * g.monitorRoom + (rest.map fun v => v.category).sum ≤ 8) (hdg : decode cc g.pc = .ok (.invokestatic index, 3)) (hf : cells + mc ≤ R.cells ∧ slots + ms ≤ R.slots) :
    vx_Run p l e R s m args below meth c H locs cells slots mc ms g rest (Qc As.toArray) XC free := by
  have hK : vx_Back l R p e below s args y 3 8 (PreOf R mc ms Pc) (PostOf Qc mc ms free) (vx_Post XC mc ms free) := vx_callBack cw.1 hM hp.1
  obtain ⟨⟨-, -, -, -, -, -, hcode, hini, hy, hlen, hl⟩, hstt⟩ := cw
  obtain ⟨hx, hb, hml, ho, -⟩ := S
  intro T hT X
  rcases vx_callS X hx (bytes := bytes) (maxL := maxL) (ret := ret) ho hl hstt hini hcode hy hK hg (hsize.trans hml.symm) (argsL := As) (rest := rest) (fun sig h => hn.trans (hlen sig h)) hstack hW (by rw [hb]; exact hdg)
    (fun vm₁ hW₁ => ⟨hf.1, hf.2, hp.2 (T.setVm vm₁) hT hW₁⟩) with ⟨v, vm₁, ⟨U', l2, c2, s2⟩, hW₁, X', ⟨g', mk, t, L, e1, e2, hq, h1, hL, h2, h3⟩, st⟩ | ⟨q, vm₁, ⟨U', l2, c2, s2⟩, hW₁, X', ⟨g', mk, t, L, E, ce, e1, e2, hq, hce, hcv, hcl, h1, hL, h2, h3⟩, st⟩
  · dsimp only [Pt.U, Pt.locs, Pt.cells, Pt.slots] at X' e1 e2 h1 h2 h3 st
    subst h1; subst h2; subst h3
    exact Or.inl ⟨v, (T.setVm vm₁).calling g' mk As.toArray, t, U', L, hT, X', hL, e1, e2, hq, st⟩
  · dsimp only [Pt.U, Pt.locs, Pt.cells, Pt.slots] at X' e1 e2 h1 h2 h3 st hcl
    subst h1; subst h2; subst h3
    exact Or.inr ⟨q, (T.setVm vm₁).calling g' mk As.toArray, t, U', L, E, ce, hT, X', hL, e1, e2, hq, hce, hcv, vx_cls hW₁ hcl, st⟩
end Runs
section Rows
variable {p : Program} {l : Launch} {e : Env} {R : Room} {s : State} {m : MethodId} {args : Array Value} {below : List Frame} {meth : Method} {c : Code} {H : Heap} {locs : List Loc} {cells slots : Nat} {Q : State → Prop}
variable {mc ms : Nat} {free : Addr → Prop} {A0 A1 : Nat → Prop} {H0 : Heap} {a : Array Value} {pc : Nat} {ls : Array Slot} {st0 rest : List Value}
theorem vx_keep {st₀ t T' : State} {L : List Loc} (h0 : st₀.heap = H) (e1 : T'.heap = t.heap) (hS : va_S A0 H0 H locs) (hA : ∀ q, q < H.size → A1 q → A0 q) (hf : ∀ q, free q → A0 q) (hL : ∀ q ∈ L, free q.base) (hF : va_F A1 st₀ t) :
    H.size ≤ T'.heap.size ∧ (∀ q : Nat, q < H.size → ¬ A1 q → T'.heap[q]? = H[q]?) ∧ va_S A0 H0 T'.heap (locs ++ L) := by
  obtain ⟨hz, hk⟩ := hF
  rw [h0] at hz hk
  exact ⟨by rw [e1]; exact hz, fun q h1 h2 => by rw [e1]; exact hk q h1 h2,
    ⟨Nat.le_trans hS.1 (by rw [e1]; exact hz), fun q h1 h2 => by rw [e1, hk q (Nat.lt_of_lt_of_le h1 hS.1) (fun z => h2 (hA q (Nat.lt_of_lt_of_le h1 hS.1) z))]; exact hS.2.1 q h1 h2, fun q hq => by
      rcases List.mem_append.mp hq with h | h
      · exact hS.2.2 q h
      · exact hf _ (hL q h)⟩⟩
theorem vx_calli {S SX : Type} {post : Int32 → S → Prop} {px : SX → Prop} {B : S → State → Prop} {BX : String → SX → State → Prop} {AX : Nat → Prop} (hr : vx_Run p l e R s m args below meth c H locs cells slots mc ms (F0 m pc ls st0) rest (va_Qi post B A1 a) (vx_X px BX AX) free) (hS : va_S A0 H0 H locs) (hA : ∀ q, q < H.size → A1 q → A0 q) (hf : ∀ q, free q → A0 q) (hAX : ∀ q, q < H.size → AX q → A0 q)
    (kx : ∀ (E : String) (ce : Cell) (q9 : Addr) (u : SX) (t : State) (H1 : Heap) (locs1 : List Loc), t.heap = H1 → s.vm.Alike t.vm → px u → BX E u t → H.size ≤ H1.size → (∀ q : Nat, q < H.size → ¬ AX q → H1[q]? = H[q]?) → va_S A0 H0 H1 locs1 → H1[q9]? = some ce → ce.vm = .none → s.vm.findClass E = some ce.cls → vx_W p l e R s m args below meth c H1 locs1 (cells + mc) (slots + ms) Q (F0 m pc ls rest) q9)
    (kk : ∀ (r : Int32) (u : S) (t : State) (H1 : Heap) (locs1 : List Loc), t.heap = H1 → s.vm.Alike t.vm → post r u → B u t → H.size ≤ H1.size → (∀ q : Nat, q < H.size → ¬ A1 q → H1[q]? = H[q]?) → va_S A0 H0 H1 locs1 → W p l e R s m args below meth c H1 locs1 (cells + mc) (slots + ms) Q (F0 m (pc + 3) ls (.int r :: rest))) : W p l e R s m args below meth c H locs cells slots Q (F0 m pc ls st0) := by
  intro T hT X
  rcases hr T hT X with ⟨v, st₀, t, T', L, h0, X', hL, e1, e2, ⟨⟨r, u, hv, hp, hb⟩, hF⟩, st⟩ | ⟨q, st₀, t, T', L, E, ce, h0, X', hL, e1, e2, ⟨u, hp, hb, hF⟩, hce, hcv, hcl, st⟩
  · cases hv
    obtain ⟨k1, k2, k3⟩ := vx_keep h0 e1 hS hA hf hL hF
    obtain ⟨t2, a1, b1⟩ := kk r u t T'.heap (locs ++ L) e1.symm (by rw [← e2]; exact X'.warmed.alike) hp hb k1 k2 k3 T' rfl X'
    exact ⟨t2, st t2 a1, b1⟩
  · obtain ⟨k1, k2, k3⟩ := vx_keep h0 e1 hS hAX hf hL hF
    obtain ⟨t2, a1, b1⟩ := kx E ce q u t T'.heap (locs ++ L) e1.symm (by rw [← e2]; exact X'.warmed.alike) hp hb k1 k2 k3 (by rw [e1]; exact hce) hcv hcl T' rfl X'
    exact ⟨t2, st.trans a1, b1⟩
theorem vx_calll {S SX : Type} {post : Int64 → S → Prop} {px : SX → Prop} {B : S → State → Prop} {BX : String → SX → State → Prop} {AX : Nat → Prop} (hr : vx_Run p l e R s m args below meth c H locs cells slots mc ms (F0 m pc ls st0) rest (va_Ql post B A1 a) (vx_X px BX AX) free) (hS : va_S A0 H0 H locs) (hA : ∀ q, q < H.size → A1 q → A0 q) (hf : ∀ q, free q → A0 q) (hAX : ∀ q, q < H.size → AX q → A0 q)
    (kx : ∀ (E : String) (ce : Cell) (q9 : Addr) (u : SX) (t : State) (H1 : Heap) (locs1 : List Loc), t.heap = H1 → s.vm.Alike t.vm → px u → BX E u t → H.size ≤ H1.size → (∀ q : Nat, q < H.size → ¬ AX q → H1[q]? = H[q]?) → va_S A0 H0 H1 locs1 → H1[q9]? = some ce → ce.vm = .none → s.vm.findClass E = some ce.cls → vx_W p l e R s m args below meth c H1 locs1 (cells + mc) (slots + ms) Q (F0 m pc ls rest) q9)
    (kk : ∀ (r : Int64) (u : S) (t : State) (H1 : Heap) (locs1 : List Loc), t.heap = H1 → s.vm.Alike t.vm → post r u → B u t → H.size ≤ H1.size → (∀ q : Nat, q < H.size → ¬ A1 q → H1[q]? = H[q]?) → va_S A0 H0 H1 locs1 → W p l e R s m args below meth c H1 locs1 (cells + mc) (slots + ms) Q (F0 m (pc + 3) ls (.long r :: rest))) : W p l e R s m args below meth c H locs cells slots Q (F0 m pc ls st0) := by
  intro T hT X
  rcases hr T hT X with ⟨v, st₀, t, T', L, h0, X', hL, e1, e2, ⟨⟨r, u, hv, hp, hb⟩, hF⟩, st⟩ | ⟨q, st₀, t, T', L, E, ce, h0, X', hL, e1, e2, ⟨u, hp, hb, hF⟩, hce, hcv, hcl, st⟩
  · cases hv
    obtain ⟨k1, k2, k3⟩ := vx_keep h0 e1 hS hA hf hL hF
    obtain ⟨t2, a1, b1⟩ := kk r u t T'.heap (locs ++ L) e1.symm (by rw [← e2]; exact X'.warmed.alike) hp hb k1 k2 k3 T' rfl X'
    exact ⟨t2, st t2 a1, b1⟩
  · obtain ⟨k1, k2, k3⟩ := vx_keep h0 e1 hS hAX hf hL hF
    obtain ⟨t2, a1, b1⟩ := kx E ce q u t T'.heap (locs ++ L) e1.symm (by rw [← e2]; exact X'.warmed.alike) hp hb k1 k2 k3 (by rw [e1]; exact hce) hcv hcl T' rfl X'
    exact ⟨t2, st.trans a1, b1⟩
theorem vx_callf {S SX : Type} {post : UInt32 → S → Prop} {px : SX → Prop} {B : S → State → Prop} {BX : String → SX → State → Prop} {AX : Nat → Prop} (hr : vx_Run p l e R s m args below meth c H locs cells slots mc ms (F0 m pc ls st0) rest (va_Qf post B A1 a) (vx_X px BX AX) free) (hS : va_S A0 H0 H locs) (hA : ∀ q, q < H.size → A1 q → A0 q) (hf : ∀ q, free q → A0 q) (hAX : ∀ q, q < H.size → AX q → A0 q)
    (kx : ∀ (E : String) (ce : Cell) (q9 : Addr) (u : SX) (t : State) (H1 : Heap) (locs1 : List Loc), t.heap = H1 → s.vm.Alike t.vm → px u → BX E u t → H.size ≤ H1.size → (∀ q : Nat, q < H.size → ¬ AX q → H1[q]? = H[q]?) → va_S A0 H0 H1 locs1 → H1[q9]? = some ce → ce.vm = .none → s.vm.findClass E = some ce.cls → vx_W p l e R s m args below meth c H1 locs1 (cells + mc) (slots + ms) Q (F0 m pc ls rest) q9)
    (kk : ∀ (r : UInt32) (u : S) (t : State) (H1 : Heap) (locs1 : List Loc), t.heap = H1 → s.vm.Alike t.vm → post r u → B u t → H.size ≤ H1.size → (∀ q : Nat, q < H.size → ¬ A1 q → H1[q]? = H[q]?) → va_S A0 H0 H1 locs1 → W p l e R s m args below meth c H1 locs1 (cells + mc) (slots + ms) Q (F0 m (pc + 3) ls (.float r :: rest))) : W p l e R s m args below meth c H locs cells slots Q (F0 m pc ls st0) := by
  intro T hT X
  rcases hr T hT X with ⟨v, st₀, t, T', L, h0, X', hL, e1, e2, ⟨⟨r, u, hv, hp, hb⟩, hF⟩, st⟩ | ⟨q, st₀, t, T', L, E, ce, h0, X', hL, e1, e2, ⟨u, hp, hb, hF⟩, hce, hcv, hcl, st⟩
  · cases hv
    obtain ⟨k1, k2, k3⟩ := vx_keep h0 e1 hS hA hf hL hF
    obtain ⟨t2, a1, b1⟩ := kk r u t T'.heap (locs ++ L) e1.symm (by rw [← e2]; exact X'.warmed.alike) hp hb k1 k2 k3 T' rfl X'
    exact ⟨t2, st t2 a1, b1⟩
  · obtain ⟨k1, k2, k3⟩ := vx_keep h0 e1 hS hAX hf hL hF
    obtain ⟨t2, a1, b1⟩ := kx E ce q u t T'.heap (locs ++ L) e1.symm (by rw [← e2]; exact X'.warmed.alike) hp hb k1 k2 k3 (by rw [e1]; exact hce) hcv hcl T' rfl X'
    exact ⟨t2, st.trans a1, b1⟩
theorem vx_calld {S SX : Type} {post : UInt64 → S → Prop} {px : SX → Prop} {B : S → State → Prop} {BX : String → SX → State → Prop} {AX : Nat → Prop} (hr : vx_Run p l e R s m args below meth c H locs cells slots mc ms (F0 m pc ls st0) rest (va_Qd post B A1 a) (vx_X px BX AX) free) (hS : va_S A0 H0 H locs) (hA : ∀ q, q < H.size → A1 q → A0 q) (hf : ∀ q, free q → A0 q) (hAX : ∀ q, q < H.size → AX q → A0 q)
    (kx : ∀ (E : String) (ce : Cell) (q9 : Addr) (u : SX) (t : State) (H1 : Heap) (locs1 : List Loc), t.heap = H1 → s.vm.Alike t.vm → px u → BX E u t → H.size ≤ H1.size → (∀ q : Nat, q < H.size → ¬ AX q → H1[q]? = H[q]?) → va_S A0 H0 H1 locs1 → H1[q9]? = some ce → ce.vm = .none → s.vm.findClass E = some ce.cls → vx_W p l e R s m args below meth c H1 locs1 (cells + mc) (slots + ms) Q (F0 m pc ls rest) q9)
    (kk : ∀ (r : UInt64) (u : S) (t : State) (H1 : Heap) (locs1 : List Loc), t.heap = H1 → s.vm.Alike t.vm → post r u → B u t → H.size ≤ H1.size → (∀ q : Nat, q < H.size → ¬ A1 q → H1[q]? = H[q]?) → va_S A0 H0 H1 locs1 → W p l e R s m args below meth c H1 locs1 (cells + mc) (slots + ms) Q (F0 m (pc + 3) ls (.double r :: rest))) : W p l e R s m args below meth c H locs cells slots Q (F0 m pc ls st0) := by
  intro T hT X
  rcases hr T hT X with ⟨v, st₀, t, T', L, h0, X', hL, e1, e2, ⟨⟨r, u, hv, hp, hb⟩, hF⟩, st⟩ | ⟨q, st₀, t, T', L, E, ce, h0, X', hL, e1, e2, ⟨u, hp, hb, hF⟩, hce, hcv, hcl, st⟩
  · cases hv
    obtain ⟨k1, k2, k3⟩ := vx_keep h0 e1 hS hA hf hL hF
    obtain ⟨t2, a1, b1⟩ := kk r u t T'.heap (locs ++ L) e1.symm (by rw [← e2]; exact X'.warmed.alike) hp hb k1 k2 k3 T' rfl X'
    exact ⟨t2, st t2 a1, b1⟩
  · obtain ⟨k1, k2, k3⟩ := vx_keep h0 e1 hS hAX hf hL hF
    obtain ⟨t2, a1, b1⟩ := kx E ce q u t T'.heap (locs ++ L) e1.symm (by rw [← e2]; exact X'.warmed.alike) hp hb k1 k2 k3 (by rw [e1]; exact hce) hcv hcl T' rfl X'
    exact ⟨t2, st.trans a1, b1⟩
theorem vx_callv {S SX : Type} {post : S → Prop} {px : SX → Prop} {B : S → State → Prop} {BX : String → SX → State → Prop} {AX : Nat → Prop} (hr : vx_Run p l e R s m args below meth c H locs cells slots mc ms (F0 m pc ls st0) rest (va_Qv post B A1 a) (vx_X px BX AX) free) (hS : va_S A0 H0 H locs) (hA : ∀ q, q < H.size → A1 q → A0 q) (hf : ∀ q, free q → A0 q) (hAX : ∀ q, q < H.size → AX q → A0 q)
    (kx : ∀ (E : String) (ce : Cell) (q9 : Addr) (u : SX) (t : State) (H1 : Heap) (locs1 : List Loc), t.heap = H1 → s.vm.Alike t.vm → px u → BX E u t → H.size ≤ H1.size → (∀ q : Nat, q < H.size → ¬ AX q → H1[q]? = H[q]?) → va_S A0 H0 H1 locs1 → H1[q9]? = some ce → ce.vm = .none → s.vm.findClass E = some ce.cls → vx_W p l e R s m args below meth c H1 locs1 (cells + mc) (slots + ms) Q (F0 m pc ls rest) q9)
    (kk : ∀ (u : S) (t : State) (H1 : Heap) (locs1 : List Loc), t.heap = H1 → s.vm.Alike t.vm → post u → B u t → H.size ≤ H1.size → (∀ q : Nat, q < H.size → ¬ A1 q → H1[q]? = H[q]?) → va_S A0 H0 H1 locs1 → W p l e R s m args below meth c H1 locs1 (cells + mc) (slots + ms) Q (F0 m (pc + 3) ls (rest))) : W p l e R s m args below meth c H locs cells slots Q (F0 m pc ls st0) := by
  intro T hT X
  rcases hr T hT X with ⟨v, st₀, t, T', L, h0, X', hL, e1, e2, ⟨⟨u, hv, hp, hb⟩, hF⟩, st⟩ | ⟨q, st₀, t, T', L, E, ce, h0, X', hL, e1, e2, ⟨u, hp, hb, hF⟩, hce, hcv, hcl, st⟩
  · cases hv
    obtain ⟨k1, k2, k3⟩ := vx_keep h0 e1 hS hA hf hL hF
    obtain ⟨t2, a1, b1⟩ := kk u t T'.heap (locs ++ L) e1.symm (by rw [← e2]; exact X'.warmed.alike) hp hb k1 k2 k3 T' rfl X'
    exact ⟨t2, st t2 a1, b1⟩
  · obtain ⟨k1, k2, k3⟩ := vx_keep h0 e1 hS hAX hf hL hF
    obtain ⟨t2, a1, b1⟩ := kx E ce q u t T'.heap (locs ++ L) e1.symm (by rw [← e2]; exact X'.warmed.alike) hp hb k1 k2 k3 (by rw [e1]; exact hce) hcv hcl T' rfl X'
    exact ⟨t2, st.trans a1, b1⟩
/-- caught by the row x of this method's table; the rows ahead don't take it -/
theorem vx_catch {own name : String} {E : String} {ce : Cell} {q : Addr} (hown : s.vm.findClass own = some m.cls) (pre : List ExceptionTableEntry) (x : ExceptionTableEntry) (suf : List ExceptionTableEntry) (hsplit : c.exceptionTable.toList = pre ++ x :: suf)
    (hpass : ∀ z ∈ pre, covers z pc = false ∨ (z.catchType ≠ 0 ∧ ∃ nm : String, (Cond.classLink own z.catchType nm).before args s = true ∧ va_Nc E nm s)) (hx : covers x pc = true) (h0 : x.catchType ≠ 0)
    (hlink : (Cond.classLink own x.catchType name).before args s = true) (hcast : (Cond.castable E name).before args s = true) (hcell : H[q]? = some ce) (hv : ce.vm = .none) (hcl : s.vm.findClass E = some ce.cls)
    (kk : W p l e R s m args below meth c H locs cells slots Q (F0 m x.handlerPc ls [.ref q])) : vx_W p l e R s m args below meth c H locs cells slots Q (F0 m pc ls rest) q := by
  intro T hT X
  have hpl : e.platform.magicAccessors = ({} : Platform).magicAccessors := by rw [X.admits.platform]
  obtain ⟨c3, c4, hc3, hc4, hasg⟩ := Cond.castable_spec hcast
  cases Option.some.inj (hc3.symm.trans hcl)
  obtain ⟨c5, hc5, hcl5⟩ := Cond.classLink_spec hown hlink e.platform hpl
  cases Option.some.inj (hc4.symm.trans hc5)
  obtain ⟨vm', X', st⟩ := X.thenCaughtThrough q (g := F0 m pc ls rest) rfl (Steps.refl _) (by rw [hT]; exact hcell) (by rw [hv]; rfl) (by obtain ⟨k9, h9, -⟩ := Vm.findClass_spec hcl; exact ⟨k9, h9⟩) pre x suf hsplit
    (fun z hz => by
      rcases hpass z hz with h | ⟨hz0, nm, hl1, hn1⟩
      · exact Or.inl h
      · obtain ⟨c6, hc6, hcl6⟩ := Cond.classLink_spec hown hl1 e.platform hpl
        obtain ⟨a8, b8, h1, h2, h3⟩ := hn1
        cases Option.some.inj (h1.symm.trans hcl)
        cases Option.some.inj (h2.symm.trans hc6)
        exact Or.inr ⟨hz0, _, hcl6, h3⟩) hx (Or.inr ⟨h0, c4, hcl5, hasg⟩)
  obtain ⟨t, a1, b1⟩ := kk (T.setVm vm') hT X'
  exact ⟨t, st.trans a1, b1⟩
end Rows
section Ends
variable {p : Program} {l : Launch} {e : Env} {R : Room} {s : State} {m : MethodId} {args : Array Value} {below : List Frame} {meth : Method} {c : Code} {H : Heap} {locs : List Loc} {cells slots : Nat} {Q : State → Prop}
variable {mc ms : Nat} {free : Addr → Prop} {A0 A1 : Nat → Prop} {H0 : Heap} {a : Array Value} {ls : Array Slot} {st0 rest : List Value}
variable {Qc : Array Value → State → Outcome → State → Prop} {XC : String → State → State → Prop}
/-- what a body that may throw owes at its end -/
def vx_MQ (below : List Frame) (Qc : Array Value → State → Outcome → State → Prop) (XC : String → State → State → Prop) (a : Array Value) (s : State) (mc ms : Nat) (free : Addr → Prop) : State → Prop := fun t =>
  ∃ o, t.status = .running ∧ Ended t below o ∧ vx_Q Qc XC mc ms free a s o t
theorem vx_ret {g : JFrame} {mc ms : Nat} (k : W p l e R s m args below meth c H locs cells slots (MQ below Qc args s mc ms free) g) : W p l e R s m args below meth c H locs cells slots (vx_MQ below Qc XC args s mc ms free) g := by
  intro T hT X
  obtain ⟨t, a1, o, b1, b2, b3, b4⟩ := k T hT X
  exact ⟨t, a1, o, b1, b2, Or.inl ⟨b3, b4⟩⟩
/-- not caught here: it goes on to the caller -/
theorem vx_widen {g : JFrame} {q : Addr} {k n : Nat} (h1 : cells ≤ k) (h2 : slots ≤ n) (kk : vx_W p l e R s m args below meth c H locs k n Q g q) : vx_W p l e R s m args below meth c H locs cells slots Q g q := fun T hT X => kk T hT (stand_widen X h1 h2)
theorem vx_out {pc : Nat} {E : String} {ce : Cell} {q : Addr} {mc ms : Nat} (hout : ∀ x ∈ c.exceptionTable.toList, covers x pc = false) (hlocks : meth.locks = false) (hcell : H[q]? = some ce) (hv : ce.vm = .none) (hcl : s.vm.findClass E = some ce.cls)
    (hx : ∀ t : State, t.heap = H → s.vm.Alike t.vm → XC E s t) (hf : ∀ z ∈ locs, free z.base) (hc : cells ≤ mc) (hs : slots ≤ ms) :
    vx_W p l e R s m args below meth c H locs cells slots (vx_MQ below Qc XC args s mc ms free) (F0 m pc ls rest) q := by
  intro T hT X
  obtain ⟨st1, hrun, hend, hW, hsm⟩ := X.leaveThrown q (g := F0 m pc ls rest) rfl rfl rfl hout hlocks
  have hcell9 : (T.setFrames (.throwing q :: below)).heap[q]? = some ce := by
    show T.heap[q]? = some ce
    rw [hT]; exact hcell
  exact ⟨_, st1, .threw q, hrun, hend, Or.inr ⟨q, rfl, E, ce, locs, hx _ hT hW.alike, hcell9, hv, hcl, hW, hsm.mono hc hs, hf⟩⟩
theorem vx_frame {U : State} {k n : Nat} (h : s.sameButNew ({ U with vm := s.vm } : State) locs k n) : s.heap.size ≤ U.heap.size ∧ ∀ q : Nat, q < s.heap.size → (∀ z ∈ locs, z.base ≠ q) → U.heap[q]? = s.heap[q]? := by
  obtain ⟨-, h2, -, -, -, h6⟩ := h
  refine ⟨h2, fun q hq hz => ?_⟩
  obtain ⟨c9, e1, e2, e3, e4⟩ := h6 q _ (Array.getElem?_eq_getElem hq)
  have hs : c9.slots = (s.heap[q]).slots := Array.ext_getElem? fun i => e4 i fun hm => hz _ hm rfl
  have h9 : c9 = s.heap[q] := by
    rw [hs] at e2
    exact e2
  have e5 : U.heap[q]? = some c9 := e1
  rw [e5, h9, Array.getElem?_eq_getElem hq]
/-- the words of a throw but the four that speak of the heap -/
def vx_no (w : Cond) : Bool := decide (w ≠ .isRef (.static Bundle.tN "UNASSIGNED_STACK" Bundle.steD)) && decide (w ≠ .isRef (.static Bundle.tN "SUPPRESSED_SENTINEL" Bundle.listD)) && decide (w ≠ .laysStatic Bundle.tN "UNASSIGNED_STACK" Bundle.steD) && decide (w ≠ .laysStatic Bundle.tN "SUPPRESSED_SENTINEL" Bundle.listD)
def vx_at0 (own : String) (ic : Nat) (X : String) (names : List String) : List Cond := (Bundle.ownAtoms0 own ic X names).filter vx_no
def vx_atS (own : String) (ic : Nat) (X : String) (names : List String) : List Cond := (Bundle.ownAtoms own ic X names).filter vx_no
/-- a word that the tables alone decide, or a good one -/
def vx_ot (w : Cond) : Bool := w.onTables || goodWord w
theorem vx_ot_at {args a' : Array Value} {s U : State} {w : Cond} (hW : s.WarmedH U.vm) (hvm : s.vm = U.vm) (hg : vx_ot w = true) (h : w.before args s = true) : w.before a' U = true := by
  simp only [vx_ot, Bool.or_eq_true] at hg
  rcases hg with hg | hg
  · exact va_tabs hg hvm h
  · exact word_at hW (good_of_word hg) h
/-- a list's words: the good ones out of the method's own list, the others by premises of their own -/
theorem vx_hat {args : Array Value} {s : State} {L B : List Cond} (h1 : ∀ w ∈ L.filter goodWord, w.before args s = true) (h2 : ∀ w ∈ L.filter (fun w => !goodWord w), w ∈ B) (h3 : ∀ w ∈ B, w.before args s = true) : ∀ w ∈ L, w.before args s = true := by
  intro w hw
  by_cases g : goodWord w = true
  · exact h1 w (List.mem_filter.mpr ⟨hw, g⟩)
  · refine h3 w (h2 w (List.mem_filter.mpr ⟨hw, ?_⟩))
    show (!goodWord w) = true
    cases hgw : goodWord w
    · rfl
    · exact absurd hgw g
theorem vx_c {args : Array Value} {s : State} {w : Cond} {B : List Cond} (h : w.before args s = true) (t : ∀ w ∈ B, w.before args s = true) : ∀ w' ∈ w :: B, w'.before args s = true := fun w' h' => (List.mem_cons.mp h').elim (fun e => by rw [e]; exact h) (t w')
theorem vx_n {args : Array Value} {s : State} : ∀ w ∈ ([] : List Cond), w.before args s = true := fun _ h => nomatch h
theorem vx_own {args : Array Value} {s : State} {L : List Cond} (h1 : ∀ w ∈ L.filter vx_no, w.before args s = true)
    (hU : (Cond.isRef (.static Bundle.tN "UNASSIGNED_STACK" Bundle.steD)).before args s = true) (hN : (Cond.isRef (.static Bundle.tN "SUPPRESSED_SENTINEL" Bundle.listD)).before args s = true)
    (lU : (Cond.laysStatic Bundle.tN "UNASSIGNED_STACK" Bundle.steD).before args s = true) (lN : (Cond.laysStatic Bundle.tN "SUPPRESSED_SENTINEL" Bundle.listD).before args s = true) : ∀ w ∈ L, w.before args s = true := by
  intro w hw
  by_cases e1 : w = .isRef (.static Bundle.tN "UNASSIGNED_STACK" Bundle.steD)
  · rw [e1]; exact hU
  · by_cases e2 : w = .isRef (.static Bundle.tN "SUPPRESSED_SENTINEL" Bundle.listD)
    · rw [e2]; exact hN
    · by_cases e3 : w = .laysStatic Bundle.tN "UNASSIGNED_STACK" Bundle.steD
      · rw [e3]; exact lU
      · by_cases e4 : w = .laysStatic Bundle.tN "SUPPRESSED_SENTINEL" Bundle.listD
        · rw [e4]; exact lN
        · exact h1 w (List.mem_filter.mpr ⟨hw, by unfold vx_no; rw [decide_eq_true e1, decide_eq_true e2, decide_eq_true e3, decide_eq_true e4]; rfl⟩)
/-- where a static field lies, its class's statics cell in H -/
def vx_L (C n d : String) (A : Nat → Prop) (U : State) (H : Heap) : Prop := ∃ (c : ClassId) (k : Class) (i : Nat) (f : Field) (a : Nat) (cell : Cell), U.vm.findClass C = some c ∧ U.fieldFound? C n d = some (c, k, i, f) ∧ f.isStatic = true ∧ k.statics = some a ∧ H[a]? = some cell ∧ cell.vm.isStatics = true ∧ cell.cls = c ∧ f.slot < cell.slots.size ∧ k.staticTypes[f.slot]? = some f.type ∧ ¬ A a
theorem vx_L.moved {C n d : String} {A : Nat → Prop} {u U : State} {H : Heap} (hvm : u.vm.Alike U.vm) (h : vx_L C n d A u H) : vx_L C n d A U H := by
  obtain ⟨c, k, i, f, a, cell, h1, h2, h3, h4, h5, h6, h7, h8, h9, h10⟩ := h
  obtain ⟨k', hi', he⟩ := State.fieldFound?_setVm hvm h2
  exact ⟨c, k', i, f, a, cell, by rw [hvm.findClass]; exact h1, hi', h3, by rw [he]; exact h4, h5, h6, h7, h8, by rw [he]; exact h9, h10⟩
theorem vx_L.kept {C n d : String} {A : Nat → Prop} {U : State} {H H1 : Heap} (h : vx_L C n d A U H) (hq : ∀ a : Nat, a < H.size → ¬ A a → H1[a]? = H[a]?) : vx_L C n d A U H1 := by
  obtain ⟨c, k, i, f, a, cell, h1, h2, h3, h4, h5, h6, h7, h8, h9, h10⟩ := h
  exact ⟨c, k, i, f, a, cell, h1, h2, h3, h4, by rw [hq a (Array.getElem?_eq_some_iff.mp h5).1 h10]; exact h5, h6, h7, h8, h9, h10⟩
theorem vx_L.narrow {C n d : String} {A B : Nat → Prop} {U : State} {H : Heap} (h : vx_L C n d A U H) (hAB : ∀ q, B q → A q) : vx_L C n d B U H := by
  obtain ⟨c, k, i, f, a, cell, h1, h2, h3, h4, h5, h6, h7, h8, h9, h10⟩ := h
  exact ⟨c, k, i, f, a, cell, h1, h2, h3, h4, h5, h6, h7, h8, h9, fun z => h10 (hAB _ z)⟩
theorem vx_L.word {C n d : String} {A : Nat → Prop} {s : State} {args : Array Value} (h : vx_L C n d A s s.heap) : (Cond.laysStatic C n d).before args s = true := by
  obtain ⟨c, k, i, f, a, cell, h1, h2, h3, h4, h5, h6, h7, h8, h9, -⟩ := h
  show (Cond.laysStatic C n d).holds args s none s [] = true
  exact Cond.laysStatic_of h1 h2 h3 h4 h5 h6 h7 h8 h9
/-- .. and what it holds: null or some reference -/
def vx_Zq (C n d : String) (A : Nat → Prop) (U : State) (H : Heap) : Prop := va_Zq C n d A U H ∧ vx_L C n d A U H
theorem vx_Zq.moved {C n d : String} {A : Nat → Prop} {u U : State} {H : Heap} (hvm : u.vm.Alike U.vm) (h : vx_Zq C n d A u H) : vx_Zq C n d A U H := ⟨va_Zq.moved hvm h.1, vx_L.moved hvm h.2⟩
theorem vx_Zq.kept {C n d : String} {A : Nat → Prop} {U : State} {H H1 : Heap} (h : vx_Zq C n d A U H) (hq : ∀ a : Nat, a < H.size → ¬ A a → H1[a]? = H[a]?) : vx_Zq C n d A U H1 := ⟨va_Zq.kept h.1 hq, vx_L.kept h.2 hq⟩
theorem vx_Zq.narrow {C n d : String} {A B : Nat → Prop} {U : State} {H : Heap} (h : vx_Zq C n d A U H) (hAB : ∀ q, B q → A q) : vx_Zq C n d B U H := ⟨va_Zq.narrow h.1 hAB, vx_L.narrow h.2 hAB⟩
theorem vx_Zqof {args : Array Value} {s : State} {C n d : String} {A : Nat → Prop} (hl : (Cond.laysStatic C n d).before args s = true) (hini : (Cond.initialized C).before args s = true) (h : (Cond.isRef (.static C n d)).before args s = true) (hA : ∀ a : Nat, a < s.heap.size → ¬ A a) : vx_Zq C n d A s s.heap := by
  refine ⟨va_Zqof hl hini h hA, ?_⟩
  obtain ⟨c, k, i, f, a, cell, h1, h2, h3, h4, h5, h6, h7, h8, h9⟩ := Cond.laysStatic_spec hl
  exact ⟨c, k, i, f, a, cell, h1, h2, h3, h4, h5, h6, h7, h8, h9, hA a (Array.getElem?_eq_some_iff.mp h5).1⟩
theorem vx_isRef {C n d : String} {v : Value} {A : Nat → Prop} {s : State} {args : Array Value} (h : va_Z C n d v A s s.heap) (hv : v.isRef = true) : (Cond.isRef (.static C n d)).before args s = true := by
  obtain ⟨cf, kf, fi, f, a, cell, h1, h2, h3, h4, h5, h6, h7, -⟩ := h
  have he : (Term.static C n d).eval args s none [] s = some v := by
    simp [Term.eval, State.fieldNamed?, h1, h2, h4, h5, h6, h7]
  simp only [Cond.before, Cond.holds, Cond.value, he]
  cases v <;> simp_all [Value.isRef]
theorem vx_isRefq {C n d : String} {A : Nat → Prop} {s : State} {args : Array Value} (h : va_Zq C n d A s s.heap) : (Cond.isRef (.static C n d)).before args s = true := by
  rcases h with h | ⟨t, h⟩
  · exact vx_isRef h rfl
  · exact vx_isRef h rfl
/-- the same frame, seen from here: as if the method were called anew in this heap -/
theorem vx_rebase {T : State} (X : Stand p l e R s m args below meth c T locs cells slots) {R' : Room} (hf : R'.frames ≤ R.frames) (hl : R'.locals ≤ R.locals) (hc : cells + R'.cells ≤ R.cells) (hs : slots + R'.slots ≤ R.slots) :
    Stand p l e R' ((T.setVm s.vm).setFrames (.invoking m args :: below)) m args below meth c T [] 0 0 := by
  have htop : (T.setVm s.vm).topJava?.isSome := X.here.top
  have hF : ((T.setVm s.vm).setFrames (.invoking m args :: below)).frames = .invoking m args :: below := State.frames_setFrames _ (State.cur_lt_of_top htop)
  obtain ⟨g₀, hg0⟩ := Option.isSome_iff_exists.mp htop
  obtain ⟨r, hr⟩ := State.topJava?_eq_some.mp hg0
  have hl9 : e.platform.stackLimits (T.setVm s.vm).me = e.platform.stackLimits s.me := X.limits
  have hb9 : (T.setVm s.vm).me.stackBytes = s.me.stackBytes := X.bytes
  refine ⟨X.admits, X.cas, X.clock, hF, ?_, X.hears, X.method, X.code, X.here, X.tail, X.warmed, ?_, ?_, ?_⟩
  · have h := X.room
    have hU : ((T.setVm s.vm).setFrames (.invoking m args :: below)).localsInUse = s.localsInUse := by
      rw [State.localsInUse_invoking hF (meth := meth) (c := c) X.method X.code, State.localsInUse_invoking X.frames X.method X.code]
    simp only [State.hasRoom, Bool.and_eq_true, decide_eq_true_eq] at h ⊢
    obtain ⟨⟨⟨⟨h1, h2, h3, h4, h5, h6⟩, h7⟩, h8⟩, h9⟩ := h
    rw [X.frames, List.length_cons] at h2 h3
    have q1 := X.heapSize
    have q2 := X.used
    simp only [hF, hU, List.length_cons, State.stackLimits_setFrames, State.stackBytes_setFrames, hl9, hb9]
    refine ⟨⟨⟨⟨by omega, by omega, by omega, by omega, by omega, h6⟩, ?_⟩, ?_⟩, X.book⟩
    · show T.heap.size + R'.cells ≤ e.platform.maxCells
      omega
    · show T.slotsUsed + R'.slots ≤ e.platform.maxSlots
      omega
  · rw [State.stackLimits_setFrames]; rfl
  · rw [State.stackBytes_setFrames]; rfl
  · refine ⟨?_, Nat.le_refl _, Nat.le_refl _, ?_, ?_, fun a c9 h9 => ⟨c9, h9, rfl, rfl, fun _ _ => rfl⟩⟩
    · obtain ⟨t, ht, -⟩ := State.frames_cons hr
      show T.setVm s.vm = { ((T.setVm s.vm).setFrames (.invoking m args :: below)).setFrames (T.setVm s.vm).frames with heap := T.heap, slotsUsed := T.slotsUsed }
      rw [State.setFrames_setFrames, State.setFrames_self ht]
      rfl
    · show T.slotsUsed = T.slotsUsed + ((T.heap.toList.drop T.heap.size).map (·.slots.size)).sum
      rw [List.drop_eq_nil_of_le (Nat.le_of_eq Array.length_toList)]
      rfl
    · show ((T.heap.toList.drop T.heap.size).map (·.slots.size)).sum ≤ 0
      rw [List.drop_eq_nil_of_le (Nat.le_of_eq Array.length_toList)]
      exact Nat.le_refl _
/-- 'throw new E()': new; dup; invokespecial; athrow -/
theorem vx_throw0 {cc : ByteArray} {pc : Nat} (hexec : p.tables.exec = Jvm.exec) (hb : c.code = cc) (hl : l.stackTraces = false) {own cls : String} {names : List String} {ik ic mc ms : Nat} {A : Nat → Prop}
    (hown : s.vm.findClass own = some m.cls) (hcls : Bundle.fit cls = true) (hnames : ∀ n ∈ names, Bundle.fit n = true)
    (hk : (Cond.classLink own ik cls).before args s = true) (hini : (Cond.initialized cls).before args s = true) (hat : ∀ w ∈ vx_at0 own ic cls names, w.before args s = true)
    (hgood : ∀ w ∈ Cond.classLink own ik cls :: Cond.initialized cls :: vx_at0 own ic cls names, vx_ot w = true)
    (hU : vx_Zq Bundle.tN "UNASSIGNED_STACK" Bundle.steD A s s.heap) (hN : vx_Zq Bundle.tN "SUPPRESSED_SENTINEL" Bundle.listD A s s.heap) (hS : va_S A s.heap H locs) (hsize : ls.size = c.maxLocals)
    (d0 : decode cc pc = .ok (.new ik, 3)) (d3 : decode cc (pc + 3) = .ok (.dup, 1)) (d4 : decode cc (pc + 4) = .ok (.invokespecial ic, 3)) (d7 : decode cc (pc + 7) = .ok (.athrow, 1))
    (hout : ∀ x ∈ c.exceptionTable.toList, covers x (pc + 7) = false)
    (hRframes : names.length + 3 < R.frames) (hRlocals : (rest.map fun v => v.category).sum + (13 * (names.length + 1) + 42) ≤ R.locals) (hRcells : cells + 1 ≤ R.cells) (hRslots : slots + 6 ≤ R.slots) (hlocks : meth.locks = false)
    (hx : ∀ t : State, s.vm.Alike t.vm → H.size ≤ t.heap.size → (∀ q : Nat, q < H.size → t.heap[q]? = H[q]?) → XC cls s t)
    (hf : ∀ z ∈ locs, free z.base) (hc : cells + 1 ≤ mc) (hs : slots + 6 ≤ ms) :
    W p l e R s m args below meth c H locs cells slots (vx_MQ below Qc XC args s mc ms free) (F0 m pc ls rest) := by
  intro T hT X
  have htr : e.platform.stackTraces = false := (show e.platform.stackTraces = l.stackTraces by rw [X.admits.platform]).trans hl
  have Y := vx_rebase X (R' := { frames := R.frames, locals := R.locals, cells := 1, slots := 6 }) (Nat.le_refl _) (Nat.le_refl _) hRcells hRslots
  obtain ⟨s', hA⟩ : ∃ z, z = (T.setVm s.vm).setFrames (.invoking m args :: below) := ⟨_, rfl⟩
  rw [← hA] at Y
  have hvm : s'.vm = s.vm := by rw [hA]; rfl
  have hhp : s'.heap = H := by rw [hA]; exact hT
  have hW0 : s.WarmedH s'.vm := by rw [hvm]; exact State.WarmedH.refl s
  have hat' : ∀ w ∈ vx_at0 own ic cls names, w.before args s' = true := fun w hw => vx_ot_at hW0 hvm.symm (hgood w (List.mem_cons_of_mem _ (List.mem_cons_of_mem _ hw))) (hat w hw)
  have hk' : (Cond.classLink own ik cls).before args s' = true := vx_ot_at hW0 hvm.symm (hgood _ List.mem_cons_self) hk
  have hini' : (Cond.initialized cls).before args s' = true := vx_ot_at hW0 hvm.symm (hgood _ (List.mem_cons_of_mem _ List.mem_cons_self)) hini
  have hU' : vx_Zq Bundle.tN "UNASSIGNED_STACK" Bundle.steD A s' s'.heap := by rw [hhp]; exact vx_Zq.moved hW0.alike (hU.kept hS.2.1)
  have hN' : vx_Zq Bundle.tN "SUPPRESSED_SENTINEL" Bundle.listD A s' s'.heap := by rw [hhp]; exact vx_Zq.moved hW0.alike (hN.kept hS.2.1)
  have h : ∀ w ∈ Bundle.ownAtoms0 own ic cls names, w.before args s' = true := vx_own hat' (vx_isRefq hU'.1) (vx_isRefq hN'.1) hU'.2.word hN'.2.word
  have hown' : s'.vm.findClass own = some m.cls := by rw [hvm]; exact hown
  have hins : (Cond.instantiable cls 6).before args s' = true := h _ (by simp [Bundle.ownAtoms0])
  obtain ⟨vm₁, cX, kX, hfX, hkX, -, -, X₁, st1⟩ := Y.newCold hexec (own := own) (C := cls) (index := ik) (n := 6) hown' hk' hins hini'
    (g := F0 m pc ls rest) rfl (by rw [hb]; exact d0) (Nat.le_refl _) (Nat.le_refl _)
  generalize hT1 : (T.setVm vm₁).pushCell { cls := cX, slots := kX.instanceTypes.map defaultValue, vm := .none } = T1 at X₁ st1
  have hcat : (Value.ref T.heap.size).category = 1 := rfl
  have hcellA : T1.heap[T.heap.size]? = some (freshCell cX kX) := by rw [← hT1]; exact State.heap_pushCell_size _ _
  have d3' : decode c.code (pc + 3) = .ok (.dup, 1) := by rw [hb]; exact d3
  obtain ⟨U, hsteps, hrun, hend, hW, hsame, ce, hce, hO⟩ := X₁.ctorThrow0 hexec htr (own := own) (cls := cls) (names := names) (ic := ic) hown' hcls hnames h (fun x hx => nomatch hx) hfX hkX hcellA (by rw [hhp, hT]; exact Nat.le_refl _)
    (g := { method := m, pc := pc + 4, locals := ls, stack := .ref T.heap.size :: .ref T.heap.size :: rest, locked := none }) rfl hsize rfl rfl (rest := rest) rfl
    (by rw [hb]; exact d4) (by rw [hb]; exact d7) hout hRframes (by simp only [List.map_cons, List.sum_cons, hcat]; omega) hlocks
  obtain ⟨f1, f2⟩ := vx_frame hsame
  rw [hhp] at f1 f2
  have hWs : s.WarmedH U.vm := State.WarmedH.trans hW0 hW
  have hcl : s.vm.findClass cls = some ce.cls := by
    have h9 := hO.cls
    rw [hvm] at h9
    exact h9
  have hall : s.sameButNew ({ U with vm := s.vm } : State) locs mc ms := by
    subst hA
    obtain ⟨e1, e2⟩ := hsame
    rw [State.setFrames_setFrames] at e1
    have h2 : (T.setVm s.vm).sameButNew ({ U with vm := s.vm } : State) [] (0 + 1) (0 + 6) := ⟨e1, e2⟩
    have h3 := X.same.trans h2
    rw [List.append_nil] at h3
    exact h3.mono hc hs
  refine ⟨U, ?_, .threw T.heap.size, hrun, hend, Or.inr ⟨T.heap.size, rfl, cls, ce, locs, hx U hWs.alike f1 (fun q hq => f2 q hq (fun z hz => nomatch hz)), hce, hO.vm, hcl, hWs, hall, hf⟩⟩
  refine st1 _ ?_
  show Steps p.tables e below (T1.setTop { method := m, pc := pc + 3, locals := ls, stack := .ref T.heap.size :: rest, locked := none }) _
  jvm_step X₁.here [X₁.here.top, hexec, d3', Value.category]
  exact hsteps
/-- 'throw new E("text")': new; dup; ldc; invokespecial; athrow -/
theorem vx_throwS {cc : ByteArray} {pc : Nat} (hexec : p.tables.exec = Jvm.exec) (hb : c.code = cc) (hl : l.stackTraces = false) {own cls text : String} {names : List String} {ik is ic mc ms sa : Nat} {A : Nat → Prop}
    (hown : s.vm.findClass own = some m.cls) (hcls : Bundle.fit cls = true) (hnames : ∀ n ∈ names, Bundle.fit n = true)
    (hk : (Cond.classLink own ik cls).before args s = true) (hini : (Cond.initialized cls).before args s = true) (hstr : vk_R own is text sa s) (hat : ∀ w ∈ vx_atS own ic cls names, w.before args s = true)
    (hgood : ∀ w ∈ Cond.classLink own ik cls :: Cond.initialized cls :: vx_atS own ic cls names, vx_ot w = true)
    (hU : vx_Zq Bundle.tN "UNASSIGNED_STACK" Bundle.steD A s s.heap) (hN : vx_Zq Bundle.tN "SUPPRESSED_SENTINEL" Bundle.listD A s s.heap) (hS : va_S A s.heap H locs) (hsize : ls.size = c.maxLocals)
    (d0 : decode cc pc = .ok (.new ik, 3)) (d3 : decode cc (pc + 3) = .ok (.dup, 1)) (d4 : decode cc (pc + 4) = .ok (.ldc is, 2)) (d6 : decode cc (pc + 6) = .ok (.invokespecial ic, 3)) (d9 : decode cc (pc + 9) = .ok (.athrow, 1))
    (hout : ∀ x ∈ c.exceptionTable.toList, covers x (pc + 9) = false)
    (hRframes : names.length + 3 < R.frames) (hRlocals : (rest.map fun v => v.category).sum + (13 * (names.length + 1) + 43) ≤ R.locals) (hRcells : cells + 1 ≤ R.cells) (hRslots : slots + 6 ≤ R.slots) (hlocks : meth.locks = false)
    (hx : ∀ t : State, s.vm.Alike t.vm → H.size ≤ t.heap.size → (∀ q : Nat, q < H.size → t.heap[q]? = H[q]?) → XC cls s t)
    (hf : ∀ z ∈ locs, free z.base) (hc : cells + 1 ≤ mc) (hs : slots + 6 ≤ ms) :
    W p l e R s m args below meth c H locs cells slots (vx_MQ below Qc XC args s mc ms free) (F0 m pc ls rest) := by
  intro T hT X
  have htr : e.platform.stackTraces = false := (show e.platform.stackTraces = l.stackTraces by rw [X.admits.platform]).trans hl
  have Y := vx_rebase X (R' := { frames := R.frames, locals := R.locals, cells := 1, slots := 6 }) (Nat.le_refl _) (Nat.le_refl _) hRcells hRslots
  obtain ⟨s', hA⟩ : ∃ z, z = (T.setVm s.vm).setFrames (.invoking m args :: below) := ⟨_, rfl⟩
  rw [← hA] at Y
  have hvm : s'.vm = s.vm := by rw [hA]; rfl
  have hhp : s'.heap = H := by rw [hA]; exact hT
  have hW0 : s.WarmedH s'.vm := by rw [hvm]; exact State.WarmedH.refl s
  have hat' : ∀ w ∈ vx_atS own ic cls names, w.before args s' = true := fun w hw => vx_ot_at hW0 hvm.symm (hgood w (List.mem_cons_of_mem _ (List.mem_cons_of_mem _ hw))) (hat w hw)
  have hk' : (Cond.classLink own ik cls).before args s' = true := vx_ot_at hW0 hvm.symm (hgood _ List.mem_cons_self) hk
  have hini' : (Cond.initialized cls).before args s' = true := vx_ot_at hW0 hvm.symm (hgood _ (List.mem_cons_of_mem _ List.mem_cons_self)) hini
  have hU' : vx_Zq Bundle.tN "UNASSIGNED_STACK" Bundle.steD A s' s'.heap := by rw [hhp]; exact vx_Zq.moved hW0.alike (hU.kept hS.2.1)
  have hN' : vx_Zq Bundle.tN "SUPPRESSED_SENTINEL" Bundle.listD A s' s'.heap := by rw [hhp]; exact vx_Zq.moved hW0.alike (hN.kept hS.2.1)
  have h : ∀ w ∈ Bundle.ownAtoms own ic cls names, w.before args s' = true := vx_own hat' (vx_isRefq hU'.1) (vx_isRefq hN'.1) hU'.2.word hN'.2.word
  have hown' : s'.vm.findClass own = some m.cls := by rw [hvm]; exact hown
  have hins : (Cond.instantiable cls 6).before args s' = true := h _ (by simp [Bundle.ownAtoms])
  obtain ⟨vm₁, cX, kX, hfX, hkX, -, -, X₁, st1⟩ := Y.newCold hexec (own := own) (C := cls) (index := ik) (n := 6) hown' hk' hins hini'
    (g := F0 m pc ls rest) rfl (by rw [hb]; exact d0) (Nat.le_refl _) (Nat.le_refl _)
  generalize hT1 : (T.setVm vm₁).pushCell { cls := cX, slots := kX.instanceTypes.map defaultValue, vm := .none } = T1 at X₁ st1
  have hcat : (Value.ref T.heap.size).category = 1 := rfl
  have hcellA : T1.heap[T.heap.size]? = some (freshCell cX kX) := by rw [← hT1]; exact State.heap_pushCell_size _ _
  have d3' : decode c.code (pc + 3) = .ok (.dup, 1) := by rw [hb]; exact d3
  have d4' : decode c.code (pc + 4) = .ok (.ldc is, 2) := by rw [hb]; exact d4
  have hstr' : vk_R own is text sa s' := vk_R.warm hW0 hstr
  obtain ⟨U, hsteps, hrun, hend, hW, hsame, ce, hce, hO⟩ := X₁.ctorThrowS hexec htr (own := own) (cls := cls) (names := names) (ic := ic) hown' hcls hnames h (fun x hx => nomatch hx) hfX hkX hcellA (by rw [hhp, hT]; exact Nat.le_refl _) (msg := .ref sa) rfl
    (g := { method := m, pc := pc + 6, locals := ls, stack := .ref sa :: .ref T.heap.size :: .ref T.heap.size :: rest, locked := none }) rfl hsize rfl rfl (rest := rest) rfl
    (by rw [hb]; exact d6) (by rw [hb]; exact d9) hout hRframes (by simp only [List.map_cons, List.sum_cons, hcat]; omega) hlocks
  obtain ⟨f1, f2⟩ := vx_frame hsame
  rw [hhp] at f1 f2
  have hWs : s.WarmedH U.vm := State.WarmedH.trans hW0 hW
  have hcl : s.vm.findClass cls = some ce.cls := by
    have h9 := hO.cls
    rw [hvm] at h9
    exact h9
  have hall : s.sameButNew ({ U with vm := s.vm } : State) locs mc ms := by
    subst hA
    obtain ⟨e1, e2⟩ := hsame
    rw [State.setFrames_setFrames] at e1
    have h2 : (T.setVm s.vm).sameButNew ({ U with vm := s.vm } : State) [] (0 + 1) (0 + 6) := ⟨e1, e2⟩
    have h3 := X.same.trans h2
    rw [List.append_nil] at h3
    exact h3.mono hc hs
  refine ⟨U, ?_, .threw T.heap.size, hrun, hend, Or.inr ⟨T.heap.size, rfl, cls, ce, locs, hx U hWs.alike f1 (fun q hq => f2 q hq (fun z hz => nomatch hz)), hce, hO.vm, hcl, hWs, hall, hf⟩⟩
  refine st1 _ ?_
  show Steps p.tables e below (T1.setTop { method := m, pc := pc + 3, locals := ls, stack := .ref T.heap.size :: rest, locked := none }) _
  jvm_step X₁.here [X₁.here.top, hexec, d3', Value.category]
  exact X₁.ldcString hexec (own := own) (text := text) (index := is) (a := sa) hown' hstr'.1 hstr'.2
    (g := { method := m, pc := pc + 4, locals := ls, stack := .ref T.heap.size :: .ref T.heap.size :: rest, locked := none }) rfl d4' _ hsteps
/-- 'throw new E("text")', the text by a wide index -/
theorem vx_throwSW {cc : ByteArray} {pc : Nat} (hexec : p.tables.exec = Jvm.exec) (hb : c.code = cc) (hl : l.stackTraces = false) {own cls text : String} {names : List String} {ik is ic mc ms sa : Nat} {A : Nat → Prop}
    (hown : s.vm.findClass own = some m.cls) (hcls : Bundle.fit cls = true) (hnames : ∀ n ∈ names, Bundle.fit n = true)
    (hk : (Cond.classLink own ik cls).before args s = true) (hini : (Cond.initialized cls).before args s = true) (hstr : vk_R own is text sa s) (hat : ∀ w ∈ vx_atS own ic cls names, w.before args s = true)
    (hgood : ∀ w ∈ Cond.classLink own ik cls :: Cond.initialized cls :: vx_atS own ic cls names, vx_ot w = true)
    (hU : vx_Zq Bundle.tN "UNASSIGNED_STACK" Bundle.steD A s s.heap) (hN : vx_Zq Bundle.tN "SUPPRESSED_SENTINEL" Bundle.listD A s s.heap) (hS : va_S A s.heap H locs) (hsize : ls.size = c.maxLocals)
    (d0 : decode cc pc = .ok (.new ik, 3)) (d3 : decode cc (pc + 3) = .ok (.dup, 1)) (d4 : decode cc (pc + 4) = .ok (.ldc_w is, 3)) (d7 : decode cc (pc + 7) = .ok (.invokespecial ic, 3)) (d10 : decode cc (pc + 10) = .ok (.athrow, 1))
    (hout : ∀ x ∈ c.exceptionTable.toList, covers x (pc + 10) = false)
    (hRframes : names.length + 3 < R.frames) (hRlocals : (rest.map fun v => v.category).sum + (13 * (names.length + 1) + 43) ≤ R.locals) (hRcells : cells + 1 ≤ R.cells) (hRslots : slots + 6 ≤ R.slots) (hlocks : meth.locks = false)
    (hx : ∀ t : State, s.vm.Alike t.vm → H.size ≤ t.heap.size → (∀ q : Nat, q < H.size → t.heap[q]? = H[q]?) → XC cls s t)
    (hf : ∀ z ∈ locs, free z.base) (hc : cells + 1 ≤ mc) (hs : slots + 6 ≤ ms) :
    W p l e R s m args below meth c H locs cells slots (vx_MQ below Qc XC args s mc ms free) (F0 m pc ls rest) := by
  intro T hT X
  have htr : e.platform.stackTraces = false := (show e.platform.stackTraces = l.stackTraces by rw [X.admits.platform]).trans hl
  have Y := vx_rebase X (R' := { frames := R.frames, locals := R.locals, cells := 1, slots := 6 }) (Nat.le_refl _) (Nat.le_refl _) hRcells hRslots
  obtain ⟨s', hA⟩ : ∃ z, z = (T.setVm s.vm).setFrames (.invoking m args :: below) := ⟨_, rfl⟩
  rw [← hA] at Y
  have hvm : s'.vm = s.vm := by rw [hA]; rfl
  have hhp : s'.heap = H := by rw [hA]; exact hT
  have hW0 : s.WarmedH s'.vm := by rw [hvm]; exact State.WarmedH.refl s
  have hat' : ∀ w ∈ vx_atS own ic cls names, w.before args s' = true := fun w hw => vx_ot_at hW0 hvm.symm (hgood w (List.mem_cons_of_mem _ (List.mem_cons_of_mem _ hw))) (hat w hw)
  have hk' : (Cond.classLink own ik cls).before args s' = true := vx_ot_at hW0 hvm.symm (hgood _ List.mem_cons_self) hk
  have hini' : (Cond.initialized cls).before args s' = true := vx_ot_at hW0 hvm.symm (hgood _ (List.mem_cons_of_mem _ List.mem_cons_self)) hini
  have hU' : vx_Zq Bundle.tN "UNASSIGNED_STACK" Bundle.steD A s' s'.heap := by rw [hhp]; exact vx_Zq.moved hW0.alike (hU.kept hS.2.1)
  have hN' : vx_Zq Bundle.tN "SUPPRESSED_SENTINEL" Bundle.listD A s' s'.heap := by rw [hhp]; exact vx_Zq.moved hW0.alike (hN.kept hS.2.1)
  have h : ∀ w ∈ Bundle.ownAtoms own ic cls names, w.before args s' = true := vx_own hat' (vx_isRefq hU'.1) (vx_isRefq hN'.1) hU'.2.word hN'.2.word
  have hown' : s'.vm.findClass own = some m.cls := by rw [hvm]; exact hown
  have hins : (Cond.instantiable cls 6).before args s' = true := h _ (by simp [Bundle.ownAtoms])
  obtain ⟨vm₁, cX, kX, hfX, hkX, -, -, X₁, st1⟩ := Y.newCold hexec (own := own) (C := cls) (index := ik) (n := 6) hown' hk' hins hini'
    (g := F0 m pc ls rest) rfl (by rw [hb]; exact d0) (Nat.le_refl _) (Nat.le_refl _)
  generalize hT1 : (T.setVm vm₁).pushCell { cls := cX, slots := kX.instanceTypes.map defaultValue, vm := .none } = T1 at X₁ st1
  have hcat : (Value.ref T.heap.size).category = 1 := rfl
  have hcellA : T1.heap[T.heap.size]? = some (freshCell cX kX) := by rw [← hT1]; exact State.heap_pushCell_size _ _
  have d3' : decode c.code (pc + 3) = .ok (.dup, 1) := by rw [hb]; exact d3
  have d4' : decode c.code (pc + 4) = .ok (.ldc_w is, 3) := by rw [hb]; exact d4
  have hstr' : vk_R own is text sa s' := vk_R.warm hW0 hstr
  obtain ⟨U, hsteps, hrun, hend, hW, hsame, ce, hce, hO⟩ := X₁.ctorThrowS hexec htr (own := own) (cls := cls) (names := names) (ic := ic) hown' hcls hnames h (fun x hx => nomatch hx) hfX hkX hcellA (by rw [hhp, hT]; exact Nat.le_refl _) (msg := .ref sa) rfl
    (g := { method := m, pc := pc + 7, locals := ls, stack := .ref sa :: .ref T.heap.size :: .ref T.heap.size :: rest, locked := none }) rfl hsize rfl rfl (rest := rest) rfl
    (by rw [hb]; exact d7) (by rw [hb]; exact d10) hout hRframes (by simp only [List.map_cons, List.sum_cons, hcat]; omega) hlocks
  obtain ⟨f1, f2⟩ := vx_frame hsame
  rw [hhp] at f1 f2
  have hWs : s.WarmedH U.vm := State.WarmedH.trans hW0 hW
  have hcl : s.vm.findClass cls = some ce.cls := by
    have h9 := hO.cls
    rw [hvm] at h9
    exact h9
  have hall : s.sameButNew ({ U with vm := s.vm } : State) locs mc ms := by
    subst hA
    obtain ⟨e1, e2⟩ := hsame
    rw [State.setFrames_setFrames] at e1
    have h2 : (T.setVm s.vm).sameButNew ({ U with vm := s.vm } : State) [] (0 + 1) (0 + 6) := ⟨e1, e2⟩
    have h3 := X.same.trans h2
    rw [List.append_nil] at h3
    exact h3.mono hc hs
  refine ⟨U, ?_, .threw T.heap.size, hrun, hend, Or.inr ⟨T.heap.size, rfl, cls, ce, locs, hx U hWs.alike f1 (fun q hq => f2 q hq (fun z hz => nomatch hz)), hce, hO.vm, hcl, hWs, hall, hf⟩⟩
  refine st1 _ ?_
  show Steps p.tables e below (T1.setTop { method := m, pc := pc + 3, locals := ls, stack := .ref T.heap.size :: rest, locked := none }) _
  jvm_step X₁.here [X₁.here.top, hexec, d3', Value.category]
  exact X₁.ldcStringW hexec (own := own) (text := text) (index := is) (a := sa) hown' hstr'.1 hstr'.2
    (g := { method := m, pc := pc + 4, locals := ls, stack := .ref T.heap.size :: .ref T.heap.size :: rest, locked := none }) rfl d4' _ hsteps
end Ends
section Bodies
variable {l : Launch}
theorem vx_ofW {y : MethodName} {ws ws' : List Cond} {rm : Room} {Pc : Array Value → State → Prop} {Qc : Array Value → State → Outcome → State → Prop} {XC : String → State → State → Prop} {mc ms : Nat} {free : Addr → Prop} {cc : ByteArray} {maxL : Nat} {ret : Option FieldType}
    (hy : plainName y.cls = true) (hw : ws = Cond.code y cc maxL ret :: ws')
    (body : ∀ p e s m args below meth c s₁, BodyLoose p l y (headSpec ws rm) cc maxL ret e s m args below meth c s₁ → c.maxLocals = maxL → (∀ x ∈ c.exceptionTable.toList, False) → Pc args s →
      W p l e (headSpec ws rm).room s m args below meth c s.heap [] 0 0 (vx_MQ below Qc XC args s mc ms free) (entryFrame m args maxL)) : vx_Met l y ws rm Pc Qc XC mc ms free := by
  refine MetFree.of_bodyS (code := cc) (maxLocals := maxL) (ret := ret) hy ?_ ?_
  · intro args s m h hn
    obtain ⟨meth, c, h1, h2, h3, h4, h5, h6, -, -⟩ := Cond.code_spec hn (atoms_spec (ws := ws) h _ (by rw [hw]; exact List.mem_cons_self))
    exact ⟨meth, c, h1, h2, h3, h4, h5, h6⟩
  · intro p e s m args below meth c s₁ B hml hP _
    have hh0 : s₁.heap = s.heap := by rw [B.state]; rfl
    have ht : ∀ x ∈ c.exceptionTable.toList, False := by
      obtain ⟨meth9, c9, h1, h2, -, -, -, -, h7, -⟩ := Cond.code_spec B.named (atoms_spec (ws := ws) B.pre _ (by rw [hw]; exact List.mem_cons_self))
      cases Option.some.inj (h1.symm.trans B.method)
      cases Option.some.inj (h2.symm.trans (Stand.of_body B).code)
      intro x hx
      rw [Array.isEmpty_iff.mp h7] at hx
      cases hx
    obtain ⟨t, a1, o, b1, b2, b3⟩ := body p e s m args below meth c s₁ B hml ht hP s₁ hh0 (Stand.of_body B)
    exact ⟨t, o, a1, b1, b2, b3⟩
/-- the table of a body with handlers -/
theorem vx_table {p : Program} {x y : MethodName} {S : Spec} {cc bytes : ByteArray} {maxL maxL' : Nat} {ret ret' : Option FieldType} {e : Env} {s s₁ : State} {m : MethodId} {args : Array Value} {below : List Frame} {meth : Method} {c : Code} {hh : List (Nat × Nat × Nat × Nat)}
    (B : BodyLoose p l y S cc maxL ret e s m args below meth c s₁) (h : (Cond.codeWith y bytes maxL' ret' hh).before args s = true) : c.exceptionTable.toList = tableOf hh := by
  obtain ⟨m9, meth9, c9, hn9, h1, h2, -, -, h6, -⟩ := Cond.codeWith_spec h
  cases Option.some.inj (hn9.symm.trans B.named)
  cases Option.some.inj (h1.symm.trans B.method)
  cases Option.some.inj (h2.symm.trans (Stand.of_body B).code)
  rw [← h6, table_eq]
end Bodies
end VXA
/-! ===== END ===== -/
/-! ===== BEGIN a static call of a method with an exception table ===== -/
section VXS
variable {p : Program} {l : Launch} {e : Env} {R : Room} {s : State} {m : MethodId} {args : Array Value} {below : List Frame} {meth : Method} {c : Code} {T : State} {H : Heap} {locs : List Loc} {cells slots : Nat}
abbrev vx_CSW (R : Room) (s : State) (args : Array Value) (own : String) (index : Nat) (y : MethodName) (bytes : ByteArray) (maxL : Nat) (ret : Option FieldType) (hh : List (Nat × Nat × Nat × Nat)) (ws : List Cond) (rm : Room) (mc ms n : Nat) : Prop :=
  (rm.cells = mc ∧ rm.slots = ms ∧ rm.frames + 1 ≤ R.frames ∧ 8 + (maxL + 11) + rm.locals ≤ R.locals ∧ (∀ w ∈ ws, ∀ (a' : Array Value) (U : State), s.WarmedH U.vm → w.before a' U = true) ∧ Cond.codeWith y bytes maxL ret hh ∈ ws) ∧
  (Cond.codeWith y bytes maxL ret hh).before args s = true ∧ (Cond.initialized y.cls).before args s = true ∧ (y.cls ≠ "java/lang/invoke/MethodHandle" ∧ y.cls ≠ "java/lang/invoke/VarHandle") ∧
  (∀ sig, parseMethodDescriptor y.desc = some sig → n = sig.parameters.length) ∧ (Cond.methodLink own index y).before args s = true ∧ (Cond.static y).before args s = true
theorem vx_cwSW {own : String} {index maxL mc ms : Nat} {y : MethodName} {bytes : ByteArray} {ret : Option FieldType} {hh : List (Nat × Nat × Nat × Nat)} {Ts ws ws' : List Cond} {rm : Room} (n : Nat) (ht : ∀ w ∈ Ts, w.before args s = true) (hT : GoodIn Ts (va_wsS own index y ws)) (hw : ws = Cond.codeWith y bytes maxL ret hh :: ws') (hrc : rm.cells = mc) (hrs : rm.slots = ms)
    (hd : y.cls ≠ "java/lang/invoke/MethodHandle" ∧ y.cls ≠ "java/lang/invoke/VarHandle" ∧ (parseMethodDescriptor y.desc).map (fun d => d.parameters.length) = some n) (hR : rm.frames + 1 ≤ R.frames ∧ 8 + (maxL + 11) + rm.locals ≤ R.locals) :
    vx_CSW R s args own index y bytes maxL ret hh ws rm mc ms n := by
  have ok : ∀ w ∈ va_wsS own index y ws, w.before args s = true := fun w h => ht w (hT w h).1
  have hG : GoodIn Ts ws := fun w h => hT w (by unfold va_wsS; exact List.mem_append_right _ h)
  have hc : Cond.codeWith y bytes maxL ret hh ∈ ws := by rw [hw]; exact List.mem_cons_self
  refine ⟨⟨hrc, hrs, hR.1, hR.2, pay_in ht hG, hc⟩, ht _ (hG _ hc).1, ok _ (by simp [va_wsS]), ⟨hd.1, hd.2.1⟩, fun sig h => ?_, ok _ (by simp [va_wsS]), ok _ (by simp [va_wsS])⟩
  have h2 := hd.2.2
  rw [h] at h2
  exact (Option.some.inj h2).symm
theorem vx_callSW (X : Stand p l e R s m args below meth c T locs cells slots) (hexec : p.tables.exec = Jvm.exec) {own : String} {index : Nat} {y : MethodName} {bytes : ByteArray} {maxL : Nat} {ret : Option FieldType} {hh : List (Nat × Nat × Nat × Nat)}
    (hown : s.vm.findClass own = some m.cls) (hlink : (Cond.methodLink own index y).before args s = true) (hstat : (Cond.static y).before args s = true) (hinit : (Cond.initialized y.cls).before args s = true)
    (hcode : (Cond.codeWith y bytes maxL ret hh).before args s = true) (hy : y.cls ≠ "java/lang/invoke/MethodHandle" ∧ y.cls ≠ "java/lang/invoke/VarHandle")
    {W9 : Nat} {Pre : Pt → Array Value → Prop} {Post : Pt → Array Value → Option Value → Pt → Prop} (hK : Back l R p e below s args y 3 W9 Pre Post)
    {g : JFrame} (hg : g.method = m) (hsize : g.locals.size = c.maxLocals) {argsL rest : List Value} (hlen : ∀ sig, parseMethodDescriptor y.desc = some sig → argsL.length = sig.parameters.length)
    (hstack : g.stack = argsL.reverse ++ rest) (hW : 2 * g.monitorRoom + (rest.map fun v => v.category).sum ≤ W9) (hdg : decode c.code g.pc = .ok (.invokestatic index, 3))
    (hpre : ∀ vm₁, s.WarmedH vm₁ → Pre ⟨T.setVm vm₁, locs, cells, slots⟩ argsL.toArray) :
    ∃ (v : Option Value) (vm₁ : Vm) (B : Pt), s.WarmedH vm₁ ∧ Stand p l e R s m args below meth c B.U B.locs B.cells B.slots ∧ Post ⟨T.setVm vm₁, locs, cells, slots⟩ argsL.toArray v B ∧
      ∀ target, Steps p.tables e below (B.U.setTop { g with pc := g.pc + 3, stack := v.toList ++ rest }) target → Steps p.tables e below (T.setTop g) target := by
  obtain ⟨mk, methM, cM, hnamed, hmethM, -, -, -, -, -, -, hsigM⟩ := Cond.codeWith_spec hcode
  have hstatic : methM.isStatic = true := Cond.static_spec hnamed hmethM hstat
  obtain ⟨kP, hkP, -⟩ := className_of_methodNamed hnamed
  have hinitP : kP.init = .initialized := Cond.initialized_spec (findClass_of_methodNamed hnamed) hkP hinit
  obtain ⟨vm₁, X₁, hstep₁⟩ := X.invokestatic hexec hown hlink hnamed hmethM hstatic hkP hinitP hy (g := g) hg (argsL := argsL) (rest := rest) (hlen _ hsigM) hstack hdg
  obtain ⟨v, B, X', hpost, hsteps⟩ := hK m meth c ⟨T.setVm vm₁, locs, cells, slots⟩ { g with stack := rest } (.invokestatic index) mk argsL.toArray X₁ hg hsize hdg hW (X₁.named hnamed) (hpre vm₁ X₁.warmed)
  exact ⟨v, vm₁, B, X₁.warmed, X', hpost, fun target h => hstep₁ _ fun acts => by rw [doInvoke_state]; exact hsteps.trans h⟩
theorem vx_runSW {y : MethodName} {bytes cc : ByteArray} {maxL nL mc ms n index : Nat} {ret : Option FieldType} {hh : List (Nat × Nat × Nat × Nat)} {ws : List Cond} {rm : Room} {Pc : Array Value → State → Prop} {Qc : Array Value → State → Outcome → State → Prop} {free : Addr → Prop} {Ts : List Cond} {own : String} {As rest : List Value} {g : JFrame}
    (S : CallFix p m c cc nL s args Ts own) (hM : Met l y ws rm Pc Qc mc ms free) (cw : vx_CSW R s args own index y bytes maxL ret hh ws rm mc ms n) (hp : PreS s H Pc As)
    (hg : g.method = m) (hn : As.length = n) (hsize : g.locals.size = nL) (hstack : g.stack = As.reverse ++ rest) (hW : 2 * g.monitorRoom + (rest.map fun v => v.category).sum ≤ 8) (hdg : decode cc g.pc = .ok (.invokestatic index, 3)) (hf : cells + mc ≤ R.cells ∧ slots + ms ≤ R.slots) :
    va_Run p l e R s m args below meth c H locs cells slots mc ms g rest (Qc As.toArray) (free) := by
  obtain ⟨⟨hrc, hrs, hfr, hlo, hws, hcw⟩, hcode, hini, hy, hlen, hl, hstt⟩ := cw
  have hK : Back l R p e below s args y 3 8 (PreOf R mc ms Pc) (PostOf Qc mc ms free) := va_backW (hh := hh) (bytes := bytes) (maxL := maxL) (ret := ret) hM hp.1 hrc hrs hfr hlo hws hcw (fun a' U hW => word_at hW (Or.inl (by first | rfl | simp [Cond.onTables, Cond.keeps, Cond.steady])) hini)
  obtain ⟨hx, hb, hml, ho, -⟩ := S
  intro T hT X
  obtain ⟨v, vm₁, ⟨U', l2, c2, s2⟩, hW₁, X', ⟨g', mk, t, L, e1, e2, hq, h1, hL, h2, h3⟩, st⟩ := vx_callSW X hx (hh := hh) (bytes := bytes) (maxL := maxL) (ret := ret) ho hl hstt hini hcode hy hK hg (hsize.trans hml.symm) (argsL := As) (rest := rest) (fun sig h => hn.trans (hlen sig h)) hstack hW (by rw [hb]; exact hdg)
    (fun vm₁ hW₁ => ⟨hf.1, hf.2, hp.2 (T.setVm vm₁) hT hW₁⟩)
  dsimp only [Pt.U, Pt.locs, Pt.cells, Pt.slots] at X' e1 e2 h1 h2 h3 st
  subst h1; subst h2; subst h3
  exact ⟨v, (T.setVm vm₁).calling g' mk As.toArray, t, U', L, hT, X', hL, e1, e2, hq, st⟩
/-- not caught here, past rows that name other classes: it goes on to the caller -/
theorem vx_outP {p : Program} {l : Launch} {e : Env} {R : Room} {s : State} {m : MethodId} {args : Array Value} {below : List Frame} {meth : Method} {c : Code} {H : Heap} {locs : List Loc} {cells slots : Nat} {free : Addr → Prop} {ls : Array Slot} {rest : List Value} {Qc : Array Value → State → Outcome → State → Prop} {XC : String → State → State → Prop}
    {pc : Nat} {own E : String} {ce : Cell} {q : Addr} {mc ms : Nat} (hown : s.vm.findClass own = some m.cls) (hlocks : meth.locks = false)
    (hpass : ∀ z ∈ c.exceptionTable.toList, covers z pc = false ∨ (z.catchType ≠ 0 ∧ ∃ nm : String, (Cond.classLink own z.catchType nm).before args s = true ∧ va_Nc E nm s)) (hcell : H[q]? = some ce) (hv : ce.vm = .none) (hcl : s.vm.findClass E = some ce.cls)
    (hx : ∀ t : State, t.heap = H → s.vm.Alike t.vm → XC E s t) (hf : ∀ z ∈ locs, free z.base) (hc : cells ≤ mc) (hs : slots ≤ ms) :
    vx_W p l e R s m args below meth c H locs cells slots (vx_MQ below Qc XC args s mc ms free) (F0 m pc ls rest) q := by
  intro T hT X
  have hpl : e.platform.magicAccessors = ({} : Platform).magicAccessors := by rw [X.admits.platform]
  obtain ⟨vm', hW', X', st⟩ := X.outThrough hlocks q (g := F0 m pc ls rest) rfl rfl rfl (cell := ce) (by rw [hT]; exact hcell) (by rw [hv]; rfl)
    (by obtain ⟨k9, h9, -⟩ := Vm.findClass_spec hcl; exact ⟨k9, h9⟩) (fun z hz => by
      rcases hpass z hz with h | ⟨hz0, nm, hl1, hn1⟩
      · exact Or.inl h
      · obtain ⟨c6, hc6, hcl6⟩ := Cond.classLink_spec hown hl1 e.platform hpl
        obtain ⟨a8, b8, h1, h2, h3⟩ := hn1
        cases Option.some.inj (h1.symm.trans hcl)
        cases Option.some.inj (h2.symm.trans hc6)
        exact Or.inr ⟨hz0, _, hcl6, h3⟩)
  obtain ⟨g₀, hfr⟩ := X'.frames_eq
  have hcell9 : ((T.setVm vm').setFrames (.throwing q :: below)).heap[q]? = some ce := by
    show T.heap[q]? = some ce
    rw [hT]; exact hcell
  have hend : Ended ((T.setVm vm').setFrames (.throwing q :: below)) below (.threw q) := State.frames_setFrames _ (State.cur_lt_of_frames hfr)
  refine ⟨(T.setVm vm').setFrames (.throwing q :: below), ?_, .threw q, X'.here.running, hend, Or.inr ⟨q, rfl, E, ce, locs, hx _ hT (X'.ends _).1.alike, hcell9, hv, hcl, (X'.ends _).1, (X'.ends _).2.mono hc hs, hf⟩⟩
  rw [X.pushThrowing_eq]
  exact st
/-- a thing of a world lies in the heap -/
theorem vx_lt {D : va_G} {cl : List vw_C} {ws : va_W} {H1 : Heap} (h : va_P D cl ws H1) {k : Nat} {q : Nat × va_E} (hk : ws[k]? = some q) : q.1 < H1.size := (h k q hk).lt
end VXS
/-! ===== END ===== -/
/-! ===== BEGIN methods with a table of their own: called by a name, returning or throwing ===== -/
section VXH
/-! vx_backW, vx_callVX, vx_callSX, vx_callVW, vx_runVW, vx_runVX, vx_runSX, vx_ofWH follow the same proofs as their sisters above (Free/Laws.lean, Shelf42/LK1.lean); vx_outP calls Shelf42/NT130.lean (outThrough). -/
section
variable {l : Launch} {R : Room} {p : Program} {e : Env} {below : List Frame} {s : State} {sargs : Array Value} {y : MethodName} {len W9 : Nat}
theorem vx_backW {ws : List Cond} {rm : Room} {Pc : Array Value → State → Prop} {Qc : Array Value → State → Outcome → State → Prop} {XC : String → State → State → Prop} {mc ms : Nat} {free : Addr → Prop} {bytes : ByteArray} {maxL : Nat} {ret : Option FieldType} {hh : List (Nat × Nat × Nat × Nat)}
    (hM : vx_Met l y ws rm Pc Qc XC mc ms free) (hblind : FrameBlind Pc) (hrc : rm.cells = mc) (hrs : rm.slots = ms)
    (hframes : rm.frames + 1 ≤ R.frames) (hlocals : W9 + (maxL + 11) + rm.locals ≤ R.locals)
    (hws : ∀ w ∈ ws, ∀ a' U, s.WarmedH U.vm → w.before a' U = true) (hcode : Cond.codeWith y bytes maxL ret hh ∈ ws) (hinit : ∀ a' U, s.WarmedH U.vm → (Cond.initialized y.cls).before a' U = true) :
    vx_Back l R p e below s sargs y len W9 (PreOf R mc ms Pc) (PostOf Qc mc ms free) (vx_Post XC mc ms free) := by
  intro m meth c A g ig mk a X hg hsize hdg hW hn hp
  have h1 : (headSpec ws rm).pre.before a A.U = true := atoms_intro fun w hw => hws w hw _ _ X.warmed
  have h2 : (Cond.codeWith y bytes maxL ret hh).before a A.U = true := hws _ hcode _ _ X.warmed
  have h3 : (Cond.initialized y.cls).before a A.U = true := hinit _ _ X.warmed
  have h4 : A.cells + (headSpec ws rm).room.cells ≤ R.cells := by rw [show (headSpec ws rm).room.cells = mc from hrc]; exact hp.1
  have h5 : A.slots + (headSpec ws rm).room.slots ≤ R.slots := by rw [show (headSpec ws rm).room.slots = ms from hrs]; exact hp.2.1
  have hPc : Pc a (A.U.calling g mk a) := hblind _ _ _ _ hp.2.2
  obtain ⟨U, Ls, c0, s0⟩ := A
  dsimp only [Pt.U, Pt.locs, Pt.cells, Pt.slots] at h1 h2 h3 h4 h5 X hn hPc ⊢
  obtain ⟨m9, methY, cY, hn9, hmY, hcY, -, hlY, -⟩ := Cond.codeWith_spec h2
  cases Option.some.inj (hn9.symm.trans hn)
  obtain ⟨kY, hkY, -⟩ := className_of_methodNamed hn
  have hinitY : kY.init = .initialized := Cond.initialized_spec (findClass_of_methodNamed hn) hkY h3
  have h : At U g.method c below := by rw [hg]; exact X.here
  have hlocals9 : W9 + (maxL + 11) + (headSpec ws rm).room.locals ≤ R.locals := hlocals
  have happ : (headSpec ws rm).appliesLoose y e.platform (U.calling g mk a) = true :=
    Spec.appliesLoose_calling (g := g) h hdg hn hkY hinitY
      (X.room_calling (g := g) (R' := (headSpec ws rm).room) hsize hmY hcY hframes (by rw [hlY]; omega) h4 h5) h1
  obtain ⟨mid, hmid⟩ := h.above
  have hfr : (U.setTop g).frames = (.java g :: mid) ++ below := by rw [State.frames_setTop' g h.top, hmid]; rfl
  obtain ⟨o, s₂, hsteps, -, hend, hq⟩ := Steps.callFree hM p X.admits X.cas X.clock (acts := []) hfr happ hPc trivial
  have hq' : vx_Q Qc XC mc ms free a (U.calling g mk a) o s₂ := hq
  rw [State.frames_setTop' g h.top] at hend
  obtain ⟨g₀, hg0⟩ := Option.isSome_iff_exists.mp h.top
  obtain ⟨r, hr⟩ := State.topJava?_eq_some.mp hg0
  have hr' : (({ U with heap := s₂.heap, slotsUsed := s₂.slotsUsed } : State).setVm s₂.vm).frames = .java g₀ :: r := hr
  rcases hq' with ⟨hqc, L, hfe, hL⟩ | ⟨q, rfl, E, ce, L, hx, hce, hcv, hcl, hW₂, hsm, hL⟩
  · obtain ⟨⟨v, rfl⟩, hW₂, e2, q2, q3, q4, q5, q6⟩ := id hfe
    have e3 : s₂ = ({ (U.calling g mk a).setFrames s₂.frames with heap := s₂.heap, slotsUsed := s₂.slotsUsed } : State).setVm s₂.vm := by
      have : s₂ = ({ s₂ with vm := (U.calling g mk a).vm } : State).setVm s₂.vm := rfl
      rw [e2] at this
      exact this
    obtain ⟨c₂, i₂, len₂, hc₂, hd₂, hf₂⟩ := hend
    have hW' : U.WarmedH s₂.vm := hW₂
    have hcc : c₂ = c := by
      have h1 : s₂.code? g.method = U.code? g.method := by
        rw [State.code?_eq, State.code?_eq, hW'.alike.method?]
      exact Option.some.inj (hc₂.symm.trans (h1.trans h.code))
    subst hcc
    have hlen : len₂ = len := by rw [hdg] at hd₂; cases hd₂; rfl
    subst hlen
    have hs₂ : s₂ = (({ U with heap := s₂.heap, slotsUsed := s₂.slotsUsed } : State).setVm s₂.vm).setTop { g with pc := g.pc + len₂, stack := v.toList ++ g.stack } := by
      refine e3.trans ?_
      rw [hf₂, State.calling_eq h.top, State.setFrames_setFrames, State.setTop_of_frames _ hr', hr]
      rfl
    have hsame : U.sameButNew ({ U with heap := s₂.heap, slotsUsed := s₂.slotsUsed } : State) L mc ms := by
      refine ⟨?_, q2, q3, q4, q5, q6⟩
      obtain ⟨t, ht, -⟩ := State.frames_cons hr
      show ({ U with heap := s₂.heap, slotsUsed := s₂.slotsUsed } : State) = { U.setFrames U.frames with heap := s₂.heap, slotsUsed := s₂.slotsUsed }
      rw [State.setFrames_self ht]
    subst hg
    refine Or.inl ⟨v, ⟨(({ U with heap := s₂.heap, slotsUsed := s₂.slotsUsed } : State).setVm s₂.vm), Ls ++ L, c0 + mc, s0 + ms⟩,
      ⟨X.admits, X.cas, X.clock, X.frames, X.room, X.hears, X.method, X.code, (X.here.setHeapUsed s₂.heap s₂.slotsUsed).setVm hW'.alike, X.tail, State.WarmedH.trans X.warmed hW', X.limits, X.bytes, X.same.trans (hsame.setVm s.vm)⟩,
      ⟨g, mk, s₂, L, rfl, rfl, hqc, rfl, hL, rfl, rfl⟩, ?_⟩
    show Steps p.tables e below _ ((({ U with heap := s₂.heap, slotsUsed := s₂.slotsUsed } : State).setVm s₂.vm).setTop { g with pc := g.pc + len₂, stack := v.toList ++ g.stack })
    rw [← hs₂]
    exact hsteps
  · obtain ⟨e2, q2, q3, q4, q5, q6⟩ := id hsm
    have e3 : s₂ = ({ (U.calling g mk a).setFrames s₂.frames with heap := s₂.heap, slotsUsed := s₂.slotsUsed } : State).setVm s₂.vm := by
      have : s₂ = ({ s₂ with vm := (U.calling g mk a).vm } : State).setVm s₂.vm := rfl
      rw [e2] at this
      exact this
    have hf₂ : s₂.frames = .throwing q :: .java g :: U.frames.tail := hend
    have hW' : U.WarmedH s₂.vm := hW₂
    have hs₂ : s₂ = ((({ U with heap := s₂.heap, slotsUsed := s₂.slotsUsed } : State).setVm s₂.vm).setTop g).pushFrame (.throwing q) := by
      refine e3.trans ?_
      rw [hf₂, State.calling_eq h.top, State.setFrames_setFrames, State.pushFrame, State.frames_setTop _ hr', State.setTop_of_frames _ hr', State.setFrames_setFrames, hr]
      rfl
    have hsame : U.sameButNew ({ U with heap := s₂.heap, slotsUsed := s₂.slotsUsed } : State) L mc ms := by
      refine ⟨?_, q2, q3, q4, q5, q6⟩
      obtain ⟨t, ht, -⟩ := State.frames_cons hr
      show ({ U with heap := s₂.heap, slotsUsed := s₂.slotsUsed } : State) = { U.setFrames U.frames with heap := s₂.heap, slotsUsed := s₂.slotsUsed }
      rw [State.setFrames_self ht]
    subst hg
    refine Or.inr ⟨q, ⟨(({ U with heap := s₂.heap, slotsUsed := s₂.slotsUsed } : State).setVm s₂.vm), Ls ++ L, c0 + mc, s0 + ms⟩,
      ⟨X.admits, X.cas, X.clock, X.frames, X.room, X.hears, X.method, X.code, (X.here.setHeapUsed s₂.heap s₂.slotsUsed).setVm hW'.alike, X.tail, State.WarmedH.trans X.warmed hW', X.limits, X.bytes, X.same.trans (hsame.setVm s.vm)⟩,
      ⟨g, mk, s₂, L, E, ce, rfl, rfl, hx, hce, hcv, hcl, rfl, hL, rfl, rfl⟩, ?_⟩
    show Steps p.tables e below _ (((({ U with heap := s₂.heap, slotsUsed := s₂.slotsUsed } : State).setVm s₂.vm).setTop g).pushFrame (.throwing q))
    rw [← hs₂]
    exact hsteps
end
variable {p : Program} {l : Launch} {e : Env} {R : Room} {s : State} {m : MethodId} {args : Array Value} {below : List Frame} {meth : Method} {c : Code} {T : State} {H : Heap} {locs : List Loc} {cells slots : Nat}
theorem vx_callVX (X : Stand p l e R s m args below meth c T locs cells slots) (hexec : p.tables.exec = Jvm.exec) {own C : String} {index : Nat} {y : MethodName} {bytes : ByteArray} {maxL : Nat} {ret : Option FieldType} {hh : List (Nat × Nat × Nat × Nat)}
    (hown : s.vm.findClass own = some m.cls) (hlink : (Cond.methodLink own index y).before args s = true) (hinst : (Cond.instanceMethod y).before args s = true) (hsel : (Cond.selects C y y).before args s = true)
    (hcode : (Cond.codeWith y bytes maxL ret hh).before args s = true) (hy : y.cls ≠ "java/lang/invoke/MethodHandle" ∧ y.cls ≠ "java/lang/invoke/VarHandle")
    {W9 : Nat} {Pre : Pt → Array Value → Prop} {Post : Pt → Array Value → Option Value → Pt → Prop} {PostX : Pt → Array Value → Addr → Pt → Prop} (hK : vx_Back l R p e below s args y 3 W9 Pre Post PostX)
    {b : Addr} {cellB : Cell} (hcell : T.heap[b]? = some cellB) (hobj : cellB.vm.isStatics = false) (hcls : s.vm.findClass C = some cellB.cls)
    {g : JFrame} (hg : g.method = m) (hsize : g.locals.size = c.maxLocals) {argsL rest : List Value} (hlen : ∀ sig, parseMethodDescriptor y.desc = some sig → argsL.length = sig.parameters.length)
    (hstack : g.stack = argsL.reverse ++ .ref b :: rest) (hW : 2 * g.monitorRoom + (rest.map fun v => v.category).sum ≤ W9) (hdg : decode c.code g.pc = .ok (.invokevirtual index, 3))
    (hpre : ∀ vm₁, s.WarmedH vm₁ → Pre ⟨T.setVm vm₁, locs, cells, slots⟩ (Value.ref b :: argsL).toArray) :
    (∃ (v : Option Value) (vm₁ : Vm) (B : Pt), s.WarmedH vm₁ ∧ Stand p l e R s m args below meth c B.U B.locs B.cells B.slots ∧ Post ⟨T.setVm vm₁, locs, cells, slots⟩ (Value.ref b :: argsL).toArray v B ∧
      ∀ target, Steps p.tables e below (B.U.setTop { g with pc := g.pc + 3, stack := v.toList ++ rest }) target → Steps p.tables e below (T.setTop g) target) ∨
    (∃ (q : Addr) (vm₁ : Vm) (B : Pt), s.WarmedH vm₁ ∧ Stand p l e R s m args below meth c B.U B.locs B.cells B.slots ∧ PostX ⟨T.setVm vm₁, locs, cells, slots⟩ (Value.ref b :: argsL).toArray q B ∧
      Steps p.tables e below (T.setTop g) ((B.U.setTop { g with stack := rest }).pushFrame (.throwing q))) := by
  obtain ⟨mk, methM, hnamed, hmethM, hstM, habM⟩ := Cond.instanceMethod_spec hinst
  obtain ⟨m8, methM', cM, hn8, hmethM', -, -, -, -, -, -, hsigM⟩ := Cond.codeWith_spec hcode
  cases Option.some.inj (hn8.symm.trans hnamed)
  cases hmethM.symm.trans hmethM'
  obtain ⟨c2, r2, m2, q1, q2, q3, q4, kP, hkP, hkPi⟩ := Cond.selects_spec hsel
  cases hcls.symm.trans q1
  cases (State.methodFound?_of_named hnamed hy).symm.trans q2
  cases hnamed.symm.trans q3
  have hselP : selectMethod e.platform s.vm cellB.cls mk = .method mk := by rw [Launch.admits_selectMethod X.admits]; exact q4
  obtain ⟨vm₁, X₁, hstep₁⟩ := X.invokevirtual hexec hown hlink hnamed hmethM hstM hkP hkPi hy (a := b) (cell := cellB) hcell
    (fun z h => by rw [h] at hobj; cases hobj) hselP hmethM habM hkP hkPi (g := g) hg (argsL := argsL) (rest := rest) (hlen _ hsigM) hstack hdg
  rcases hK m meth c ⟨T.setVm vm₁, locs, cells, slots⟩ { g with stack := rest } (.invokevirtual index) mk (Value.ref b :: argsL).toArray X₁ hg hsize hdg hW (X₁.named hnamed) (hpre vm₁ X₁.warmed) with ⟨v, B, X', hpost, hsteps⟩ | ⟨q, B, X', hpost, hsteps⟩
  · exact Or.inl ⟨v, vm₁, B, X₁.warmed, X', hpost, fun target h => hstep₁ _ fun acts => by rw [doInvoke_state]; exact hsteps.trans h⟩
  · exact Or.inr ⟨q, vm₁, B, X₁.warmed, X', hpost, hstep₁ _ fun acts => by rw [doInvoke_state]; exact hsteps⟩
theorem vx_callSX (X : Stand p l e R s m args below meth c T locs cells slots) (hexec : p.tables.exec = Jvm.exec) {own : String} {index : Nat} {y : MethodName} {bytes : ByteArray} {maxL : Nat} {ret : Option FieldType} {hh : List (Nat × Nat × Nat × Nat)}
    (hown : s.vm.findClass own = some m.cls) (hlink : (Cond.methodLink own index y).before args s = true) (hstat : (Cond.static y).before args s = true) (hinit : (Cond.initialized y.cls).before args s = true)
    (hcode : (Cond.codeWith y bytes maxL ret hh).before args s = true) (hy : y.cls ≠ "java/lang/invoke/MethodHandle" ∧ y.cls ≠ "java/lang/invoke/VarHandle")
    {W9 : Nat} {Pre : Pt → Array Value → Prop} {Post : Pt → Array Value → Option Value → Pt → Prop} {PostX : Pt → Array Value → Addr → Pt → Prop} (hK : vx_Back l R p e below s args y 3 W9 Pre Post PostX)
    {g : JFrame} (hg : g.method = m) (hsize : g.locals.size = c.maxLocals) {argsL rest : List Value} (hlen : ∀ sig, parseMethodDescriptor y.desc = some sig → argsL.length = sig.parameters.length)
    (hstack : g.stack = argsL.reverse ++ rest) (hW : 2 * g.monitorRoom + (rest.map fun v => v.category).sum ≤ W9) (hdg : decode c.code g.pc = .ok (.invokestatic index, 3))
    (hpre : ∀ vm₁, s.WarmedH vm₁ → Pre ⟨T.setVm vm₁, locs, cells, slots⟩ argsL.toArray) :
    (∃ (v : Option Value) (vm₁ : Vm) (B : Pt), s.WarmedH vm₁ ∧ Stand p l e R s m args below meth c B.U B.locs B.cells B.slots ∧ Post ⟨T.setVm vm₁, locs, cells, slots⟩ argsL.toArray v B ∧
      ∀ target, Steps p.tables e below (B.U.setTop { g with pc := g.pc + 3, stack := v.toList ++ rest }) target → Steps p.tables e below (T.setTop g) target) ∨
    (∃ (q : Addr) (vm₁ : Vm) (B : Pt), s.WarmedH vm₁ ∧ Stand p l e R s m args below meth c B.U B.locs B.cells B.slots ∧ PostX ⟨T.setVm vm₁, locs, cells, slots⟩ argsL.toArray q B ∧
      Steps p.tables e below (T.setTop g) ((B.U.setTop { g with stack := rest }).pushFrame (.throwing q))) := by
  obtain ⟨mk, methM, cM, hnamed, hmethM, -, -, -, -, -, -, hsigM⟩ := Cond.codeWith_spec hcode
  have hstatic : methM.isStatic = true := Cond.static_spec hnamed hmethM hstat
  obtain ⟨kP, hkP, -⟩ := className_of_methodNamed hnamed
  have hinitP : kP.init = .initialized := Cond.initialized_spec (findClass_of_methodNamed hnamed) hkP hinit
  obtain ⟨vm₁, X₁, hstep₁⟩ := X.invokestatic hexec hown hlink hnamed hmethM hstatic hkP hinitP hy (g := g) hg (argsL := argsL) (rest := rest) (hlen _ hsigM) hstack hdg
  rcases hK m meth c ⟨T.setVm vm₁, locs, cells, slots⟩ { g with stack := rest } (.invokestatic index) mk argsL.toArray X₁ hg hsize hdg hW (X₁.named hnamed) (hpre vm₁ X₁.warmed) with ⟨v, B, X', hpost, hsteps⟩ | ⟨q, B, X', hpost, hsteps⟩
  · exact Or.inl ⟨v, vm₁, B, X₁.warmed, X', hpost, fun target h => hstep₁ _ fun acts => by rw [doInvoke_state]; exact hsteps.trans h⟩
  · exact Or.inr ⟨q, vm₁, B, X₁.warmed, X', hpost, hstep₁ _ fun acts => by rw [doInvoke_state]; exact hsteps⟩
theorem vx_callVW (X : Stand p l e R s m args below meth c T locs cells slots) (hexec : p.tables.exec = Jvm.exec) {own C : String} {index : Nat} {y : MethodName} {bytes : ByteArray} {maxL : Nat} {ret : Option FieldType} {hh : List (Nat × Nat × Nat × Nat)}
    (hown : s.vm.findClass own = some m.cls) (hlink : (Cond.methodLink own index y).before args s = true) (hinst : (Cond.instanceMethod y).before args s = true) (hsel : (Cond.selects C y y).before args s = true)
    (hcode : (Cond.codeWith y bytes maxL ret hh).before args s = true) (hy : y.cls ≠ "java/lang/invoke/MethodHandle" ∧ y.cls ≠ "java/lang/invoke/VarHandle")
    {W9 : Nat} {Pre : Pt → Array Value → Prop} {Post : Pt → Array Value → Option Value → Pt → Prop} (hK : Back l R p e below s args y 3 W9 Pre Post)
    {b : Addr} {cellB : Cell} (hcell : T.heap[b]? = some cellB) (hobj : cellB.vm.isStatics = false) (hcls : s.vm.findClass C = some cellB.cls)
    {g : JFrame} (hg : g.method = m) (hsize : g.locals.size = c.maxLocals) {argsL rest : List Value} (hlen : ∀ sig, parseMethodDescriptor y.desc = some sig → argsL.length = sig.parameters.length)
    (hstack : g.stack = argsL.reverse ++ .ref b :: rest) (hW : 2 * g.monitorRoom + (rest.map fun v => v.category).sum ≤ W9) (hdg : decode c.code g.pc = .ok (.invokevirtual index, 3))
    (hpre : ∀ vm₁, s.WarmedH vm₁ → Pre ⟨T.setVm vm₁, locs, cells, slots⟩ (Value.ref b :: argsL).toArray) :
    ∃ (v : Option Value) (vm₁ : Vm) (B : Pt), s.WarmedH vm₁ ∧ Stand p l e R s m args below meth c B.U B.locs B.cells B.slots ∧ Post ⟨T.setVm vm₁, locs, cells, slots⟩ (Value.ref b :: argsL).toArray v B ∧
      ∀ target, Steps p.tables e below (B.U.setTop { g with pc := g.pc + 3, stack := v.toList ++ rest }) target → Steps p.tables e below (T.setTop g) target := by
  obtain ⟨mk, methM, hnamed, hmethM, hstM, habM⟩ := Cond.instanceMethod_spec hinst
  obtain ⟨m8, methM', cM, hn8, hmethM', -, -, -, -, -, -, hsigM⟩ := Cond.codeWith_spec hcode
  cases Option.some.inj (hn8.symm.trans hnamed)
  cases hmethM.symm.trans hmethM'
  obtain ⟨c2, r2, m2, q1, q2, q3, q4, kP, hkP, hkPi⟩ := Cond.selects_spec hsel
  cases hcls.symm.trans q1
  cases (State.methodFound?_of_named hnamed hy).symm.trans q2
  cases hnamed.symm.trans q3
  have hselP : selectMethod e.platform s.vm cellB.cls mk = .method mk := by rw [Launch.admits_selectMethod X.admits]; exact q4
  obtain ⟨vm₁, X₁, hstep₁⟩ := X.invokevirtual hexec hown hlink hnamed hmethM hstM hkP hkPi hy (a := b) (cell := cellB) hcell
    (fun z h => by rw [h] at hobj; cases hobj) hselP hmethM habM hkP hkPi (g := g) hg (argsL := argsL) (rest := rest) (hlen _ hsigM) hstack hdg
  obtain ⟨v, B, X', hpost, hsteps⟩ := hK m meth c ⟨T.setVm vm₁, locs, cells, slots⟩ { g with stack := rest } (.invokevirtual index) mk (Value.ref b :: argsL).toArray X₁ hg hsize hdg hW (X₁.named hnamed) (hpre vm₁ X₁.warmed)
  exact ⟨v, vm₁, B, X₁.warmed, X', hpost, fun target h => hstep₁ _ fun acts => by rw [doInvoke_state]; exact hsteps.trans h⟩
abbrev vx_CVW (R : Room) (s : State) (args : Array Value) (own C : String) (index : Nat) (y : MethodName) (bytes : ByteArray) (maxL : Nat) (ret : Option FieldType) (hh : List (Nat × Nat × Nat × Nat)) (ws : List Cond) (rm : Room) (mc ms n : Nat) : Prop :=
  (rm.cells = mc ∧ rm.slots = ms ∧ rm.frames + 1 ≤ R.frames ∧ 8 + (maxL + 11) + rm.locals ≤ R.locals ∧ (∀ w ∈ ws, ∀ (a' : Array Value) (U : State), s.WarmedH U.vm → w.before a' U = true) ∧ Cond.codeWith y bytes maxL ret hh ∈ ws) ∧
  (Cond.codeWith y bytes maxL ret hh).before args s = true ∧ (Cond.initialized y.cls).before args s = true ∧ (y.cls ≠ "java/lang/invoke/MethodHandle" ∧ y.cls ≠ "java/lang/invoke/VarHandle") ∧
  (∀ sig, parseMethodDescriptor y.desc = some sig → n = sig.parameters.length) ∧ (Cond.methodLink own index y).before args s = true ∧ (Cond.instanceMethod y).before args s = true ∧ (Cond.selects C y y).before args s = true
theorem vx_cwVW {own C : String} {index maxL mc ms : Nat} {y : MethodName} {bytes : ByteArray} {ret : Option FieldType} {hh : List (Nat × Nat × Nat × Nat)} {Ts ws ws' : List Cond} {rm : Room} (n : Nat) (ht : ∀ w ∈ Ts, w.before args s = true) (hT : GoodIn Ts (wsV own index C y ws)) (hw : ws = Cond.codeWith y bytes maxL ret hh :: ws') (hrc : rm.cells = mc) (hrs : rm.slots = ms)
    (hd : y.cls = C ∧ y.cls ≠ "java/lang/invoke/MethodHandle" ∧ y.cls ≠ "java/lang/invoke/VarHandle" ∧ (parseMethodDescriptor y.desc).map (fun d => d.parameters.length) = some n) (hR : rm.frames + 1 ≤ R.frames ∧ 8 + (maxL + 11) + rm.locals ≤ R.locals) :
    vx_CVW R s args own C index y bytes maxL ret hh ws rm mc ms n := by
  obtain ⟨hC, hd⟩ := hd
  subst hC
  have ok : ∀ w ∈ wsV own index y.cls y ws, w.before args s = true := fun w h => ht w (hT w h).1
  have hG : GoodIn Ts ws := fun w h => hT w (by unfold wsV; exact List.mem_append_right _ h)
  have hc : Cond.codeWith y bytes maxL ret hh ∈ ws := by rw [hw]; exact List.mem_cons_self
  refine ⟨⟨hrc, hrs, hR.1, hR.2, pay_in ht hG, hc⟩, ht _ (hG _ hc).1, ok _ (by simp [wsV]), ⟨hd.1, hd.2.1⟩, fun sig h => ?_, ok _ (by simp [wsV]), ok _ (by simp [wsV]), ok _ (by simp [wsV])⟩
  have h2 := hd.2.2
  rw [h] at h2
  exact (Option.some.inj h2).symm
theorem vx_runVW {y : MethodName} {bytes cc : ByteArray} {maxL nL mc ms n index : Nat} {ret : Option FieldType} {hh : List (Nat × Nat × Nat × Nat)} {ws : List Cond} {rm : Room} {Pc : Array Value → State → Prop} {Qc : Array Value → State → Outcome → State → Prop} {free : Addr → Prop} {Ts : List Cond} {own C : String} {b : Addr} {As rest : List Value} {g : JFrame}
    (S : CallFix p m c cc nL s args Ts own) (hM : Met l y ws rm Pc Qc mc ms free) (cw : vx_CVW R s args own C index y bytes maxL ret hh ws rm mc ms n) (hp : PreV s H C b Pc As)
    (hg : g.method = m) (hn : As.length = n) (hsize : g.locals.size = nL) (hstack : g.stack = As.reverse ++ .ref b :: rest) (hW : 2 * g.monitorRoom + (rest.map fun v => v.category).sum ≤ 8) (hdg : decode cc g.pc = .ok (.invokevirtual index, 3)) (hf : cells + mc ≤ R.cells ∧ slots + ms ≤ R.slots) :
    va_Run p l e R s m args below meth c H locs cells slots mc ms g rest (Qc (Value.ref b :: As).toArray) free := by
  obtain ⟨⟨hrc, hrs, hfr, hlo, hws, hcw⟩, hcode, hini, hy, hlen, hl, hin, hse⟩ := cw
  have hK : Back l R p e below s args y 3 8 (PreOf R mc ms Pc) (PostOf Qc mc ms free) := va_backW (hh := hh) (bytes := bytes) (maxL := maxL) (ret := ret) hM hp.1 hrc hrs hfr hlo hws hcw (fun a' U hW => word_at hW (Or.inl (by first | rfl | simp [Cond.onTables, Cond.keeps, Cond.steady])) hini)
  obtain ⟨hx, hb, hml, ho, -⟩ := S
  obtain ⟨-, ⟨cellB, hcB, hoB, hclB⟩, hPc⟩ := hp
  intro T hT X
  obtain ⟨v, vm₁, ⟨U', l2, c2, s2⟩, hW₁, X', ⟨g', mk, t, L, e1, e2, hq, h1, hL, h2, h3⟩, st⟩ := vx_callVW X hx (C := C) (hh := hh) (bytes := bytes) (maxL := maxL) (ret := ret) ho hl hin hse hcode hy hK (by rw [hT]; exact hcB) hoB hclB hg (hsize.trans hml.symm) (argsL := As) (rest := rest) (fun sig h => hn.trans (hlen sig h)) hstack hW (by rw [hb]; exact hdg)
    (fun vm₁ hW₁ => ⟨hf.1, hf.2, hPc (T.setVm vm₁) hT hW₁⟩)
  dsimp only [Pt.U, Pt.locs, Pt.cells, Pt.slots] at X' e1 e2 h1 h2 h3 st
  subst h1; subst h2; subst h3
  exact ⟨v, (T.setVm vm₁).calling g' mk (Value.ref b :: As).toArray, t, U', L, hT, X', hL, e1, e2, hq, st⟩
section
variable {y : MethodName} {bytes cc : ByteArray} {maxL nL mc ms n index : Nat} {ret : Option FieldType} {ws : List Cond} {rm : Room} {Pc : Array Value → State → Prop} {Qc : Array Value → State → Outcome → State → Prop} {XC : String → State → State → Prop} {free : Addr → Prop} {Ts : List Cond} {own C : String} {b : Addr} {As rest : List Value} {g : JFrame}
theorem vx_runVX {hh : List (Nat × Nat × Nat × Nat)} (S : CallFix p m c cc nL s args Ts own) (hM : vx_Met l y ws rm Pc Qc XC mc ms free) (cw : vx_CVW R s args own C index y bytes maxL ret hh ws rm mc ms n) (hp : PreV s H C b Pc As)
    (hg : g.method = m) (hn : As.length = n) (hsize : g.locals.size = nL) (hstack : g.stack = As.reverse ++ .ref b :: rest) (hW : 2 * g.monitorRoom + (rest.map fun v => v.category).sum ≤ 8) (hdg : decode cc g.pc = .ok (.invokevirtual index, 3)) (hf : cells + mc ≤ R.cells ∧ slots + ms ≤ R.slots) :
    vx_Run p l e R s m args below meth c H locs cells slots mc ms g rest (Qc (Value.ref b :: As).toArray) XC free := by
  obtain ⟨⟨hrc, hrs, hfr, hlo, hws, hcw⟩, hcode, hini, hy, hlen, hl, hin, hse⟩ := cw
  have hK : vx_Back l R p e below s args y 3 8 (PreOf R mc ms Pc) (PostOf Qc mc ms free) (vx_Post XC mc ms free) := vx_backW (hh := hh) (bytes := bytes) (maxL := maxL) (ret := ret) hM hp.1 hrc hrs hfr hlo hws hcw (fun a' U hW => word_at hW (Or.inl (by first | rfl | simp [Cond.onTables, Cond.keeps, Cond.steady])) hini)
  obtain ⟨hx, hb, hml, ho, -⟩ := S
  obtain ⟨-, ⟨cellB, hcB, hoB, hclB⟩, hPc⟩ := hp
  intro T hT X
  rcases vx_callVX X hx (C := C) (hh := hh) (bytes := bytes) (maxL := maxL) (ret := ret) ho hl hin hse hcode hy hK (by rw [hT]; exact hcB) hoB hclB hg (hsize.trans hml.symm) (argsL := As) (rest := rest) (fun sig h => hn.trans (hlen sig h)) hstack hW (by rw [hb]; exact hdg)
    (fun vm₁ hW₁ => ⟨hf.1, hf.2, hPc (T.setVm vm₁) hT hW₁⟩) with ⟨v, vm₁, ⟨U', l2, c2, s2⟩, hW₁, X', ⟨g', mk, t, L, e1, e2, hq, h1, hL, h2, h3⟩, st⟩ | ⟨q, vm₁, ⟨U', l2, c2, s2⟩, hW₁, X', ⟨g', mk, t, L, E, ce, e1, e2, hq, hce, hcv, hcl, h1, hL, h2, h3⟩, st⟩
  · dsimp only [Pt.U, Pt.locs, Pt.cells, Pt.slots] at X' e1 e2 h1 h2 h3 st
    subst h1; subst h2; subst h3
    exact Or.inl ⟨v, (T.setVm vm₁).calling g' mk (Value.ref b :: As).toArray, t, U', L, hT, X', hL, e1, e2, hq, st⟩
  · dsimp only [Pt.U, Pt.locs, Pt.cells, Pt.slots] at X' e1 e2 h1 h2 h3 st hcl
    subst h1; subst h2; subst h3
    exact Or.inr ⟨q, (T.setVm vm₁).calling g' mk (Value.ref b :: As).toArray, t, U', L, E, ce, hT, X', hL, e1, e2, hq, hce, hcv, vx_cls hW₁ hcl, st⟩
theorem vx_runSX {hh : List (Nat × Nat × Nat × Nat)} (S : CallFix p m c cc nL s args Ts own) (hM : vx_Met l y ws rm Pc Qc XC mc ms free) (cw : vx_CSW R s args own index y bytes maxL ret hh ws rm mc ms n) (hp : PreS s H Pc As)
    (hg : g.method = m) (hn : As.length = n) (hsize : g.locals.size = nL) (hstack : g.stack = As.reverse ++ rest) (hW : 2 * g.monitorRoom + (rest.map fun v => v.category).sum ≤ 8) (hdg : decode cc g.pc = .ok (.invokestatic index, 3)) (hf : cells + mc ≤ R.cells ∧ slots + ms ≤ R.slots) :
    vx_Run p l e R s m args below meth c H locs cells slots mc ms g rest (Qc As.toArray) XC free := by
  obtain ⟨⟨hrc, hrs, hfr, hlo, hws, hcw⟩, hcode, hini, hy, hlen, hl, hstt⟩ := cw
  have hK : vx_Back l R p e below s args y 3 8 (PreOf R mc ms Pc) (PostOf Qc mc ms free) (vx_Post XC mc ms free) := vx_backW (hh := hh) (bytes := bytes) (maxL := maxL) (ret := ret) hM hp.1 hrc hrs hfr hlo hws hcw (fun a' U hW => word_at hW (Or.inl (by first | rfl | simp [Cond.onTables, Cond.keeps, Cond.steady])) hini)
  obtain ⟨hx, hb, hml, ho, -⟩ := S
  intro T hT X
  rcases vx_callSX X hx (hh := hh) (bytes := bytes) (maxL := maxL) (ret := ret) ho hl hstt hini hcode hy hK hg (hsize.trans hml.symm) (argsL := As) (rest := rest) (fun sig h => hn.trans (hlen sig h)) hstack hW (by rw [hb]; exact hdg)
    (fun vm₁ hW₁ => ⟨hf.1, hf.2, hp.2 (T.setVm vm₁) hT hW₁⟩) with ⟨v, vm₁, ⟨U', l2, c2, s2⟩, hW₁, X', ⟨g', mk, t, L, e1, e2, hq, h1, hL, h2, h3⟩, st⟩ | ⟨q, vm₁, ⟨U', l2, c2, s2⟩, hW₁, X', ⟨g', mk, t, L, E, ce, e1, e2, hq, hce, hcv, hcl, h1, hL, h2, h3⟩, st⟩
  · dsimp only [Pt.U, Pt.locs, Pt.cells, Pt.slots] at X' e1 e2 h1 h2 h3 st
    subst h1; subst h2; subst h3
    exact Or.inl ⟨v, (T.setVm vm₁).calling g' mk As.toArray, t, U', L, hT, X', hL, e1, e2, hq, st⟩
  · dsimp only [Pt.U, Pt.locs, Pt.cells, Pt.slots] at X' e1 e2 h1 h2 h3 st hcl
    subst h1; subst h2; subst h3
    exact Or.inr ⟨q, (T.setVm vm₁).calling g' mk As.toArray, t, U', L, E, ce, hT, X', hL, e1, e2, hq, hce, hcv, vx_cls hW₁ hcl, st⟩
end
end VXH
theorem vx_ofWH {l : Launch} {y : MethodName} {ws ws' : List Cond} {rm : Room} {Pc : Array Value → State → Prop} {Qc : Array Value → State → Outcome → State → Prop} {XC : String → State → State → Prop} {mc ms : Nat} {free : Addr → Prop} {cc : ByteArray} {maxL : Nat} {ret : Option FieldType} {hh : List (Nat × Nat × Nat × Nat)}
    (hy : plainName y.cls = true) (hw : ws = Cond.codeWith y cc maxL ret hh :: ws')
    (body : ∀ p e s m args below meth c s₁, BodyLoose p l y (headSpec ws rm) cc maxL ret e s m args below meth c s₁ → c.maxLocals = maxL → Pc args s →
      W p l e (headSpec ws rm).room s m args below meth c s.heap [] 0 0 (vx_MQ below Qc XC args s mc ms free) (entryFrame m args maxL)) : vx_Met l y ws rm Pc Qc XC mc ms free := by
  refine MetFree.of_bodyS (code := cc) (maxLocals := maxL) (ret := ret) hy ?_ ?_
  · intro args s m h hn
    obtain ⟨m9, meth, c, hn9, h1, h2, h3, h4, -, h5, h6, -⟩ := Cond.codeWith_spec (atoms_spec (ws := ws) h _ (by rw [hw]; exact List.mem_cons_self))
    cases hn.symm.trans hn9
    exact ⟨meth, c, h1, h2, h3, h4, h5, h6⟩
  · intro p e s m args below meth c s₁ B hml hP _
    have hh0 : s₁.heap = s.heap := by rw [B.state]; rfl
    obtain ⟨t, a1, o, b1, b2, b3⟩ := body p e s m args below meth c s₁ B hml hP s₁ hh0 (Stand.of_body B)
    exact ⟨t, o, a1, b1, b2, b3⟩
/-! ===== END ===== -/

/-! ===== BEGIN what the machine throws by itself, no traces kept ===== -/
section VXM
set_option maxHeartbeats 1000000 in
/-- the machine throws cls with the message text, no traces kept: from its note over the frame g to 'throwing' over the same frame (follows the proofs of Stand.vmThrowsMessage, Shelf/KitTracedVmS.lean, and Stand.throwsMessageColdBareV, StandMessageColdV.lean, without the step out of the frame) -/
theorem vx_vmAt {p : Program} {l : Launch} {e : Env} {R : Room} {s : State} {m₀ : MethodId} {args : Array Value} {below : List Frame} {meth : Method} {c : Code} {W : State} {locs : List Loc} {cells slots : Nat}
    (X : Stand p l e R s m₀ args below meth c W locs cells slots) (hexec : p.tables.exec = Jvm.exec) (htr : e.platform.stackTraces = false) {cls : String} {names : List String} {text : String}
    (hcls : Bundle.fit cls = true) (hnames : ∀ n ∈ names, Bundle.fit n = true) (hsoe : (cls == "java/lang/StackOverflowError") = false) (hoom : (cls == "java/lang/OutOfMemoryError") = false)
    (h : ∀ a ∈ Bundle.messageArmAtoms cls names, a.before args s = true)
    (hlocs : ∀ x ∈ locs, ∀ cell, s.heap[x.base]? = some cell → cell.vm.isStatics = false)
    (htext : (text == notModelled) = false) (hlimit : ¬ (stringBytes (stringToUtf16 text)).size > e.platform.arrayLengthLimit) (hheap : ¬ (stringBytes (stringToUtf16 text)).size * componentBytes .byte > e.platform.maxHeapBytes)
    {g : JFrame} (hg : g.method = m₀) (hsize : g.locals.size = c.maxLocals)
    (hRframes : names.length + 4 < R.frames) (hRlocals : 2 * g.monitorRoom + (g.stack.map fun v => v.category).sum + 10240 ≤ R.locals) (hshort : 13 * names.length + 55 ≤ 10240)
    (hRcells : cells + 3 ≤ R.cells) (hRslots : slots + ((stringBytes (stringToUtf16 text)).size + 4 + 6) ≤ R.slots) (hlocks : meth.locks = false) :
    ∃ (S : State) (q : Addr) (ce : Cell), (∀ target, Steps p.tables e below ((S.setTop g).pushFrame (.throwing q)) target → Steps p.tables e below ((W.setTop g).pushFrame (.throwNew cls (some text) none)) target) ∧
      Stand p l e R s m₀ args below meth c S locs (cells + 3) (slots + ((stringBytes (stringToUtf16 text)).size + 4 + 6)) ∧ S.heap[q]? = some ce ∧ s.vm.findClass cls = some ce.cls ∧ ce.vm = .none := by
  have howns : e.platform.frameOwnsMonitors = true := by rw [X.admits.platform]
  have hfin : e.platform.finalization = false := by rw [X.admits.platform]
  have hpl : e.platform.magicAccessors = ({} : Platform).magicAccessors := by rw [X.admits.platform]
  have a : ∀ x, x ∈ Bundle.messageArmAtoms cls names → x.holds args s none s [] = true := fun x hx => h x hx
  obtain ⟨T, Z0, L, -, Y⟩ := ThrowableC.of_atoms (args := args) howns hfin hpl (fun x hx => h x (by simp [Bundle.messageArmAtoms, hx]))
  obtain ⟨Z, M, LZ, LM, hnZ⟩ := Init0T.ofS_atoms (args := args) hpl L Y (fun x hx => h x (by simp [Bundle.messageArmAtoms, hx]))
  obtain ⟨P1, Ps, hlen, L1, hL, hP1m, hlink1, hlink⟩ := Bundle.chainS (args := args) hpl hnZ names cls hcls hnames (fun x hx => h x (by simp [Bundle.messageArmAtoms, hx]))
  obtain ⟨Zs, LZs, hn4, hfitv, hfitc⟩ := StringT.of_atoms (args := args) (fun x hx => h x (by simp [Bundle.messageArmAtoms, hx]))
  have hfound : s.vm.findClass cls = some P1.m.cls := findClass_of_methodNamed hP1m
  obtain ⟨c1, kX, hc1, hk, hord, -, -, hn6⟩ := Cond.instantiable_spec (a (.instantiable cls 6) (by simp [Bundle.messageArmAtoms]))
  cases Option.some.inj (hc1.symm.trans hfound)
  have hinit := Cond.initialized_spec hfound hk (a (.initialized cls) (by simp [Bundle.messageArmAtoms]))
  have hctor : kX.findMethod "<init>" "(Ljava/lang/String;)V" = some P1.m.idx := findMethod_of_methodNamed hP1m hk
  have hsel0 : selectMethod e.platform s.vm P1.m.cls T.fill0 = .method T.fill0 := by
    obtain ⟨c2, r2, m2, q1, q2, q3, q4, -⟩ := Cond.selects_spec (a (.selects cls Bundle.tFill0 Bundle.tFill0) (by simp [Bundle.messageArmAtoms]))
    cases Option.some.inj (q1.symm.trans hfound)
    cases Option.some.inj (q2.symm.trans (State.methodFound?_of_named Y.fill0 (by decide)))
    cases Option.some.inj (q3.symm.trans Y.fill0)
    rw [Launch.admits_selectMethod X.admits]; exact q4
  have hselF : selectMethod e.platform s.vm P1.m.cls T.fill = .method T.fill := by
    obtain ⟨c2, r2, m2, q1, q2, q3, q4, -⟩ := Cond.selects_spec (a (.selects cls Bundle.tFill Bundle.tFill) (by simp [Bundle.messageArmAtoms]))
    cases Option.some.inj (q1.symm.trans hfound)
    cases Option.some.inj (q2.symm.trans (State.methodFound?_of_named Y.fill (by decide)))
    cases Option.some.inj (q3.symm.trans Y.fill)
    rw [Launch.admits_selectMethod X.admits]; exact q4
  obtain ⟨cellS0, hcS0, hiss⟩ := Y.statics
  obtain ⟨u0, hu0⟩ := Cond.staticRefV Y.unassigned L.unassignedStatic L.statics hcS0 hiss (a (.isRef (.static Bundle.tN "UNASSIGNED_STACK" Bundle.steD)) (by simp [Bundle.messageArmAtoms]))
  obtain ⟨sen, hsen⟩ := Cond.staticRefV Y.sentinel L.sentinelStatic L.statics hcS0 hiss (a (.isRef (.static Bundle.tN "SUPPRESSED_SENTINEL" Bundle.listD)) (by simp [Bundle.messageArmAtoms]))
  obtain ⟨ci198, i198, fB, hk198, hg198, ha198, hsB, -, hnB, htB, hffB⟩ := Cond.ownField (t := .object "java/lang/Object") Y.found L.cls (by decide +kernel) (a (.fieldLink Bundle.tN 198 Bundle.tN "backtrace" "Ljava/lang/Object;") (by simp [Bundle.messageArmAtoms])) (a (.lays Bundle.tN Bundle.tN "backtrace" "Ljava/lang/Object;") (by simp [Bundle.messageArmAtoms])) e.platform hpl
  obtain ⟨cellS, hcS', heS, -, hkeep⟩ := X.same.2.2.2.2.2 T.aS cellS0 hcS0
  have hcellS : W.heap[T.aS]? = some cellS := hcS'
  have hout' : ∀ i, (⟨T.aS, i⟩ : Loc) ∉ locs := fun i hmem => by
    have := hlocs _ hmem cellS0 hcS0
    rw [hiss] at this; cases this
  have hknownS : cellS.vm ≠ .unknown := by
    rw [heS]; intro hu
    rw [show cellS0.vm = .unknown from hu] at hiss
    cases hiss
  have hvU : cellS.slots[T.fUnassigned.slot]? = some u0.v := by rw [hkeep _ (hout' _)]; exact hu0
  have hvSen : cellS.slots[T.fSentinel.slot]? = some sen.v := by rw [hkeep _ (hout' _)]; exact hsen
  obtain ⟨iM, hffM⟩ := Y.msg
  obtain ⟨tyC, dC, hdC, hdnC⟩ := Cond.laysAt hfound hk Y.cause (a (.lays cls Bundle.tN "cause" "Ljava/lang/Throwable;") (by simp [Bundle.messageArmAtoms]))
  obtain ⟨tyS, dS, hdS, hdnS⟩ := Cond.laysAt hfound hk Y.stack (a (.lays cls Bundle.tN "stackTrace" Bundle.steD) (by simp [Bundle.messageArmAtoms]))
  obtain ⟨tyP, dP, hdP, hdnP⟩ := Cond.laysAt hfound hk Y.supp (a (.lays cls Bundle.tN "suppressedExceptions" Bundle.listD) (by simp [Bundle.messageArmAtoms]))
  obtain ⟨tyM, dM, hdM, hdnM⟩ := Cond.laysAt hfound hk hffM (a (.lays cls Bundle.tN "detailMessage" "Ljava/lang/String;") (by simp [Bundle.messageArmAtoms]))
  obtain ⟨tyB, dB, hdB, hdnB⟩ := Cond.laysAt hfound hk hffB (a (.lays cls Bundle.tN "backtrace" "Ljava/lang/Object;") (by simp [Bundle.messageArmAtoms]))
  have bC := Cond.laysApart hdB hdC hdnB hdnC (by rw [hnB, Y.causeName]; decide)
  have bS := Cond.laysApart hdB hdS hdnB hdnS (by rw [hnB, Y.stackName]; decide)
  have bP := Cond.laysApart hdB hdP hdnB hdnP (by rw [hnB, Y.suppName]; decide)
  have hbk : ((preparedCellV T.toThrowableT (freshCell P1.m.cls kX) (W.heap.size + 2) u0 sen).withEntry W.cur).slots[fB.slot]? = some .null := by
    have := fresh_default (c := P1.m.cls) tyB
    rw [htB] at this
    simpa [preparedCellV, Cell.setSlot, Cell.withEntry, Array.getElem?_setIfInBounds, bC, bS, bP, bC.symm, bS.symm, bP.symm, defaultValue] using this
  have tkC := Takes.of_laid (v := .ref (W.heap.size + 2)) hk hord tyC (by rw [Y.causeType]; rfl)
  have tkS := Takes.of_laid (v := u0.v) hk hord tyS (by rw [Y.stackType]; exact fits_refV_array _ u0)
  have tkP := Takes.of_laid (v := sen.v) hk hord tyP (by rw [Y.suppType]; exact fits_refV_object _ sen)
  have tkM := Takes.of_laid (v := .ref (W.heap.size + 1)) hk hord tyM (by rw [Y.msgType]; rfl)
  have hskip : SkipFacts T e.platform s (fun u => u) u0 ((preparedCellV T.toThrowableT (freshCell P1.m.cls kX) (W.heap.size + 2) u0 sen).withEntry W.cur) := ⟨{ ci198 := ci198, i198 := i198, fBack := fB }, ⟨hk198, hg198, ha198, hsB⟩, hbk, fun _ _ => rfl⟩
  have h0 : At W g.method c below := by rw [hg]; exact X.here
  obtain ⟨hbeyond, hfreeW⟩ := X.vmMayThrow hsize (.throwNew cls (some text) none) (fun f hf => by cases hf) rfl hRlocals
  have hfr' : W.frames.length + Ps.length + 4 < (e.platform.stackLimits W.me).1 := by have := X.framesAbove hRframes; omega
  have hwd' : (stackUse (.java g :: W.frames.tail)).2 + 13 * Ps.length + 55 ≤ (e.platform.stackLimits W.me).2 := by have := X.stackAbove hsize (K := 13 * Ps.length + 55) (by omega); omega
  have hslots : W.slotsUsed + (stringBytes (stringToUtf16 text)).size + Zs.kS.instanceTypes.size + kX.instanceTypes.size ≤ e.platform.maxSlots := by
    have := X.slotsAbove hRslots
    rw [hn4, hn6]
    omega
  obtain ⟨vm', hW', st⟩ := Steps.vmThrowsMessageColdByV p (s₀ := s) (S := W) (g := g) h0 hexec T L Z LZ M LM X.warmed (t := W.cur) rfl Zs LZs P1 L1 Ps hL hlink1 hlink hsoe hoom hfound hk hinit hord hctor
    (Launch.admits_hotImplicitExceptions X.admits) hbeyond hfreeW htext hlimit hheap (X.cellsAbove hRcells) hslots (hfitv _) (hfitc _)
    (Nn := fun u => u) heapOnly_id (fun _ _ => rfl) (fun _ => rfl) (fun u x y => setCell_twice _ _ _ _) (fun _ => Nat.le_refl _) (cN := ((preparedCellV T.toThrowableT (freshCell P1.m.cls kX) (W.heap.size + 2) u0 sen).withEntry W.cur))
    hsel0 hcellS hknownS hvU tkS (fun _ hu => hu) (fun _ hu => hu) rfl rfl rfl (by simp [preparedCellV, Cell.setSlot, Cell.withEntry]) hskip (fun _ _ hA hW _ hroom _ hrest => L.nativeOff p htr hA hW hroom hrest) hselF hvSen tkC tkP tkM Y.objLocals rfl hfr' hwd'
  rw [plainBareV_eq T.toThrowableT (W.heap.size + 2) u0 sen (.ref (W.heap.size + 1)) W.cur rfl rfl] at st
  obtain ⟨-, -, w3, w4, -, -, -⟩ := withThrown_facts e.platform W Zs text P1.m.cls kX
  have X3 := ((X.pushed (bytesOf Zs.cB (stringToUtf16 text))).pushed (stringAt Zs.cS Zs.kS Zs.fv Zs.fc (stringToUtf16 text) W.heap.size)).pushed (freshCell P1.m.cls kX)
  rw [← withString_eq] at X3
  have X4 := X3.noted hW'
  have ha : (W.heap.size + 2) < ((withThrown W Zs text P1.m.cls kX).setVm vm').heap.size := by show _ < (withThrown W Zs text P1.m.cls kX).heap.size; rw [w3]; omega
  have hcell : ((withThrown W Zs text P1.m.cls kX).setVm vm').heap[(W.heap.size + 2)]? = some (freshCell P1.m.cls kX) := w4
  have X5 := ((((X4.stored hcell T.fCause.slot (.ref (W.heap.size + 2))).storedAgain ha T.fStack.slot u0.v).storedAgain ha T.fSupp.slot sen.v).storedAgain ha T.fStack.slot u0.v).storedAgain ha T.fMsg.slot (.ref (W.heap.size + 1))
  obtain ⟨g₁, hfrM⟩ := X5.frames_eq
  have hU : ((((withThrown W Zs text P1.m.cls kX).setVm vm').setCell (W.heap.size + 2) (plainBareV T.toThrowableT (freshCell P1.m.cls kX) (W.heap.size + 2) u0 sen (.ref (W.heap.size + 1)))).setTop g).pushFrame (.throwing (W.heap.size + 2)) = (((withThrown W Zs text P1.m.cls kX).setVm vm').setCell (W.heap.size + 2) (plainBareV T.toThrowableT (freshCell P1.m.cls kX) (W.heap.size + 2) u0 sen (.ref (W.heap.size + 1)))).setFrames (.throwing (W.heap.size + 2) :: .java g :: below) := by
    rw [State.pushFrame, State.frames_setTop _ hfrM, State.setTop_of_frames _ hfrM, State.setFrames_setFrames]
  have b1 : (bytesOf Zs.cB (stringToUtf16 text)).slots.size = (stringBytes (stringToUtf16 text)).size := by
    rw [(Cell.writeAll_facts _ _).2.2]; simp [bytes0]
  have b2 : (stringAt Zs.cS Zs.kS Zs.fv Zs.fc (stringToUtf16 text) W.heap.size).slots.size = 4 := by simp [string0, Cell.setSlot, hn4]
  have b3 : (freshCell P1.m.cls kX).slots.size = 6 := by simp [hn6]
  rw [b1, b2, b3] at X5
  have e9 : slots + (stringBytes (stringToUtf16 text)).size + 4 + 6 = slots + ((stringBytes (stringToUtf16 text)).size + 4 + 6) := by omega
  rw [e9] at X5
  simp only [List.append_assoc, List.cons_append, List.nil_append] at X5
  refine ⟨((withThrown W Zs text P1.m.cls kX).setVm vm').setCell (W.heap.size + 2) (plainBareV T.toThrowableT (freshCell P1.m.cls kX) (W.heap.size + 2) u0 sen (.ref (W.heap.size + 1))), W.heap.size + 2, _, fun target ht => st _ (by rw [X.tail, ← hU]; exact ht),
    X5.forget (fun y hy => ?_), heapAt_setCell_self _ ha, hfound, rfl⟩
  simp only [List.mem_cons, List.not_mem_nil, or_false] at hy
  have hge : s.heap.size ≤ W.heap.size := X.same.2.1
  rcases hy with rfl | rfl | rfl | rfl | rfl <;> exact Nat.le_trans hge (Nat.le_add_right _ 2)
set_option maxHeartbeats 1000000 in
/-- the machine throws NullPointerException, no traces kept: from its note over the frame g to 'throwing' over the same frame (follows the proof of Stand.vmThrowsNpe, Shelf42/KT2.lean; throwsNpeColdBareVAt, Shelf42/NT91.lean, called) -/
theorem vx_npeAt {p : Program} {l : Launch} {e : Env} {R : Room} {s : State} {m₀ : MethodId} {args : Array Value} {below : List Frame} {meth : Method} {c : Code} {W : State} {locs : List Loc} {cells slots : Nat}
    (X : Stand p l e R s m₀ args below meth c W locs cells slots) (hexec : p.tables.exec = Jvm.exec) (htr : e.platform.stackTraces = false) {n : Nat}
    (h : ∀ a ∈ Bundle.npeArmAtoms n, a.before args s = true)
    (hlocs : ∀ x ∈ locs, ∀ cell, s.heap[x.base]? = some cell → cell.vm.isStatics = false)
    {g : JFrame} (hg : g.method = m₀) (hsize : g.locals.size = c.maxLocals)
    (hRframes : 7 < R.frames) (hRlocals : 2 * g.monitorRoom + (g.stack.map fun v => v.category).sum + 10240 ≤ R.locals)
    (hRcells : cells + 1 ≤ R.cells) (hRslots : slots + n ≤ R.slots) (hlocks : meth.locks = false) :
    ∃ (S : State) (q : Addr) (ce : Cell), (∀ target, Steps p.tables e below ((S.setTop g).pushFrame (.throwing q)) target → Steps p.tables e below ((W.setTop g).pushFrame (.throwNew "java/lang/NullPointerException" none none)) target) ∧
      Stand p l e R s m₀ args below meth c S locs (cells + 1) (slots + n) ∧ S.heap[q]? = some ce ∧ s.vm.findClass "java/lang/NullPointerException" = some ce.cls ∧ ce.vm = .none := by
  have howns : e.platform.frameOwnsMonitors = true := by rw [X.admits.platform]
  have hfin : e.platform.finalization = false := by rw [X.admits.platform]
  have hpl : e.platform.magicAccessors = ({} : Platform).magicAccessors := by rw [X.admits.platform]
  have hpl2 : e.platform.arrayCloneIsPublic = true := by rw [X.admits.platform]
  have a' : ∀ x, x ∈ Bundle.npeArmAtoms n → x.holds args s none s [] = true := fun x hx => h x hx
  obtain ⟨T, Z, L, LZ, Y⟩ := ThrowableC.of_atoms (args := args) howns hfin hpl (fun x hx => h x (by simp [Bundle.npeArmAtoms, hx]))
  obtain ⟨N, LN, hcN, hnNF, hordN, hffS⟩ := NpeC.of_atoms (args := args) hpl hpl2 L Y (fun x hx => h x (by simp [Bundle.npeArmAtoms, hx]))
  obtain ⟨P1, L1, hP1m, hP1s⟩ := PassC.of_atoms (args := args) (s := s) hpl (X := Bundle.nN) (Y := Bundle.rN) (by decide) (by decide) LibCode.NullPointerException.Init0.at_0 LibCode.NullPointerException.Init0.at_1 LibCode.NullPointerException.Init0.at_4 (fun x hx => h x (by simp [Bundle.npeArmAtoms, hx]))
  obtain ⟨PR, LR, hPRm, hPRs⟩ := PassC.of_atoms (args := args) (s := s) hpl (X := Bundle.rN) (Y := Bundle.eN) (by decide) (by decide) LibCode.RuntimeException.Init0.at_0 LibCode.RuntimeException.Init0.at_1 LibCode.RuntimeException.Init0.at_4 (fun x hx => h x (by simp [Bundle.npeArmAtoms, hx]))
  obtain ⟨PE, LEx, hPEm, hPEs⟩ := PassC.of_atoms (args := args) (s := s) hpl (X := Bundle.eN) (Y := Bundle.tN) (by decide) (by decide) LibCode.Exception.Init0.at_0 LibCode.Exception.Init0.at_1 LibCode.Exception.Init0.at_4 (fun x hx => h x (by simp [Bundle.npeArmAtoms, hx]))
  have hfound : s.vm.findClass Bundle.nN = some P1.m.cls := findClass_of_methodNamed hP1m
  have ecls : N.cN = P1.m.cls := Option.some.inj (hcN.symm.trans hfound)
  have hk : s.vm.classes[P1.m.cls]? = some N.kN := by rw [← ecls]; exact LN.cls
  have hinit := Cond.initialized_spec hfound hk (a' (.initialized Bundle.nN) (by simp [Bundle.npeArmAtoms]))
  have hctor : N.kN.findMethod "<init>" "()V" = some P1.m.idx := findMethod_of_methodNamed hP1m hk
  obtain ⟨c1, k1, hc1, hk1, -, -, -, hn⟩ := Cond.instantiable_spec (a' (.instantiable Bundle.nN n) (by simp [Bundle.npeArmAtoms]))
  cases Option.some.inj (hc1.symm.trans hfound)
  cases Option.some.inj (hk1.symm.trans hk)
  have hfsz : (freshCell P1.m.cls N.kN).slots.size = n := by simp [hn]
  have hlink1 : P1.sup = PR.m := Option.some.inj (hP1s.symm.trans hPRm)
  have hlinkR : PR.sup = PE.m := Option.some.inj (hPRs.symm.trans hPEm)
  have hlinkE : PE.sup = Z.m T.toThrowableT := Option.some.inj (hPEs.symm.trans Y.init0)
  have hLs : ∀ P, P ∈ [PR, PE] → P.Links0 e.platform s := fun P hP => by
    simp only [List.mem_cons, List.not_mem_nil, or_false] at hP
    rcases hP with rfl | rfl
    · exact LR
    · exact LEx
  have hsel0 : selectMethod e.platform s.vm P1.m.cls T.fill0 = .method T.fill0 := by
    obtain ⟨c2, r2, m2, q1, q2, q3, q4, -⟩ := Cond.selects_spec (a' (.selects Bundle.nN Bundle.tFill0 Bundle.tFill0) (by simp [Bundle.npeArmAtoms]))
    cases Option.some.inj (q1.symm.trans hfound)
    cases Option.some.inj (q2.symm.trans (State.methodFound?_of_named Y.fill0 (by decide)))
    cases Option.some.inj (q3.symm.trans Y.fill0)
    rw [Launch.admits_selectMethod X.admits]; exact q4
  have hselF : selectMethod e.platform s.vm P1.m.cls T.fill = .method N.fill := by
    obtain ⟨c2, r2, m2, q1, q2, q3, q4, -⟩ := Cond.selects_spec (a' (.selects Bundle.nN Bundle.tFill Bundle.nFill) (by simp [Bundle.npeArmAtoms]))
    cases Option.some.inj (q1.symm.trans hfound)
    cases Option.some.inj (q2.symm.trans (State.methodFound?_of_named Y.fill (by decide)))
    cases Option.some.inj (q3.symm.trans hnNF)
    rw [Launch.admits_selectMethod X.admits]; exact q4
  obtain ⟨cellS0, hcS0, hiss⟩ := Y.statics
  obtain ⟨u0, hu0⟩ := Cond.staticRefV Y.unassigned L.unassignedStatic L.statics hcS0 hiss (a' (.isRef (.static Bundle.tN "UNASSIGNED_STACK" Bundle.steD)) (by simp [Bundle.npeArmAtoms]))
  obtain ⟨sen, hsen⟩ := Cond.staticRefV Y.sentinel L.sentinelStatic L.statics hcS0 hiss (a' (.isRef (.static Bundle.tN "SUPPRESSED_SENTINEL" Bundle.listD)) (by simp [Bundle.npeArmAtoms]))
  obtain ⟨ci198, i198, fB, hk198, hg198, ha198, hsB, -, hnB, htB, hffB⟩ := Cond.ownField (t := .object "java/lang/Object") Y.found L.cls (by decide +kernel) (a' (.fieldLink Bundle.tN 198 Bundle.tN "backtrace" Bundle.objD) (by simp [Bundle.npeArmAtoms])) (a' (.lays Bundle.tN Bundle.tN "backtrace" Bundle.objD) (by simp [Bundle.npeArmAtoms])) e.platform hpl
  obtain ⟨cellS, hcS', heS, -, hkeep⟩ := X.same.2.2.2.2.2 T.aS cellS0 hcS0
  have hcellS : W.heap[T.aS]? = some cellS := hcS'
  have hout' : ∀ i, (⟨T.aS, i⟩ : Loc) ∉ locs := fun i hmem => by
    have := hlocs _ hmem cellS0 hcS0
    rw [hiss] at this; cases this
  have hknownS : cellS.vm ≠ .unknown := by
    rw [heS]; intro hu
    rw [show cellS0.vm = .unknown from hu] at hiss
    cases hiss
  have hvU : cellS.slots[T.fUnassigned.slot]? = some u0.v := by rw [hkeep _ (hout' _)]; exact hu0
  have hvSen : cellS.slots[T.fSentinel.slot]? = some sen.v := by rw [hkeep _ (hout' _)]; exact hsen
  obtain ⟨tyC, dC, hdC, hdnC⟩ := Cond.laysAt hfound hk Y.cause (a' (.lays Bundle.nN Bundle.tN "cause" "Ljava/lang/Throwable;") (by simp [Bundle.npeArmAtoms]))
  obtain ⟨tyS, dS, hdS, hdnS⟩ := Cond.laysAt hfound hk Y.stack (a' (.lays Bundle.nN Bundle.tN "stackTrace" Bundle.steD) (by simp [Bundle.npeArmAtoms]))
  obtain ⟨tyP, dP, hdP, hdnP⟩ := Cond.laysAt hfound hk Y.supp (a' (.lays Bundle.nN Bundle.tN "suppressedExceptions" Bundle.listD) (by simp [Bundle.npeArmAtoms]))
  obtain ⟨tyX, dX, hdX, hdnX⟩ := Cond.laysAt hfound hk hffS (a' (.lays Bundle.nN Bundle.nN "extendedMessageState" "I") (by simp [Bundle.npeArmAtoms, Bundle.npeAtoms]))
  obtain ⟨hnX, htX⟩ := State.fieldFound?_type hffS (t := .int) (by decide +kernel)
  have xC := Cond.laysApart hdC hdX hdnC hdnX (by rw [hnX, Y.causeName]; decide)
  have xS := Cond.laysApart hdS hdX hdnS hdnX (by rw [hnX, Y.stackName]; decide)
  have xP := Cond.laysApart hdP hdX hdnP hdnX (by rw [hnX, Y.suppName]; decide)
  have hv0 : (freshCell P1.m.cls N.kN).slots[N.fState.slot]? = some (.int 0) := by
    have := fresh_default (c := P1.m.cls) tyX
    rw [htX] at this; exact this
  obtain ⟨tyB, dB, hdB, hdnB⟩ := Cond.laysAt hfound hk hffB (a' (.lays Bundle.nN Bundle.tN "backtrace" Bundle.objD) (by simp [Bundle.npeArmAtoms]))
  have bC := Cond.laysApart hdB hdC hdnB hdnC (by rw [hnB, Y.causeName]; decide)
  have bS := Cond.laysApart hdB hdS hdnB hdnS (by rw [hnB, Y.stackName]; decide)
  have bP := Cond.laysApart hdB hdP hdnB hdnP (by rw [hnB, Y.suppName]; decide)
  have bX := Cond.laysApart hdB hdX hdnB hdnX (by rw [hnB, hnX]; decide)
  have hbk : ((npeCell N.toNpeT (preparedCellV T.toThrowableT (freshCell P1.m.cls N.kN) W.heap.size u0 sen) W.cur).withEntry W.cur).slots[fB.slot]? = some .null := by
    have := fresh_default (c := P1.m.cls) tyB
    rw [htB] at this
    simpa [npeCell, preparedCellV, Cell.setSlot, Cell.withEntry, Array.getElem?_setIfInBounds, bC, bS, bP, bX, bC.symm, bS.symm, bP.symm, bX.symm, defaultValue] using this
  have tkC := Takes.of_laid (v := .ref W.heap.size) hk hordN tyC (by rw [Y.causeType]; rfl)
  have tkS := Takes.of_laid (v := u0.v) hk hordN tyS (by rw [Y.stackType]; exact fits_refV_array _ u0)
  have tkP := Takes.of_laid (v := sen.v) hk hordN tyP (by rw [Y.suppType]; exact fits_refV_object _ sen)
  have tkX := Takes.of_laid (v := .int 1) hk hordN tyX (by rw [htX]; rfl)
  have hskip : SkipFacts T e.platform s (fun u => u) u0 ((npeCell N.toNpeT (preparedCellV T.toThrowableT (freshCell P1.m.cls N.kN) W.heap.size u0 sen) W.cur).withEntry W.cur) := ⟨{ ci198 := ci198, i198 := i198, fBack := fB }, ⟨hk198, hg198, ha198, hsB⟩, hbk, fun _ _ => rfl⟩
  obtain ⟨vm', X3, st, -⟩ := X.throwsNpeColdBareVAt hexec hg hsize T L Z LZ N LN P1 L1 [PR, PE] hLs hlink1 ⟨hlinkR, hlinkE, trivial⟩ hfound hk hinit hordN hctor hsel0 hselF hcellS hknownS hvU hvSen
    hv0 xC xS xP tkC tkS tkP tkX Y.objLocals hskip (fun _ _ hA hW _ hroom _ hrest => L.nativeOff p htr hA hW hroom hrest) (by simpa using hRframes) hRlocals (by simp) hRcells (by rw [hn]; exact hRslots)
  have hlt : W.heap.size < ((W.pushCell (freshCell P1.m.cls N.kN)).setVm vm').heap.size := by
    show W.heap.size < (W.pushCell (freshCell P1.m.cls N.kN)).heap.size
    rw [State.heap_size_pushCell]; omega
  rw [hfsz] at X3
  obtain ⟨g₁, hfrM⟩ := X3.frames_eq
  have hU : ((((W.pushCell (freshCell P1.m.cls N.kN)).setVm vm').setCell W.heap.size (npeBareV T.toThrowableT N.toNpeT (freshCell P1.m.cls N.kN) W.heap.size u0 sen)).setTop g).pushFrame (.throwing W.heap.size) = (((W.pushCell (freshCell P1.m.cls N.kN)).setVm vm').setCell W.heap.size (npeBareV T.toThrowableT N.toNpeT (freshCell P1.m.cls N.kN) W.heap.size u0 sen)).setFrames (.throwing W.heap.size :: .java g :: below) := by
    rw [State.pushFrame, State.frames_setTop _ hfrM, State.setTop_of_frames _ hfrM, State.setFrames_setFrames]
  refine ⟨_, W.heap.size, _, fun target ht => st.trans (by rw [← hU]; exact ht), X3.forget (fun y hy => ?_), heapAt_setCell_self _ hlt, hfound, rfl⟩
  simp only [List.mem_cons, List.not_mem_nil, or_false] at hy
  have hge : s.heap.size ≤ W.heap.size := X.same.2.1
  rcases hy with rfl | rfl | rfl | rfl | rfl <;> exact hge
/-- the words of a machine's NullPointerException, but the four that speak of the heap -/
def vx_atN (n : Nat) : List Cond := (Bundle.npeArmAtoms n).filter vx_no
/-- the words of a machine's throw with a message, but the four that speak of the heap -/
def vx_atM (X : String) (names : List String) : List Cond := (Bundle.messageArmAtoms X names).filter vx_no
section
variable {p : Program} {l : Launch} {e : Env} {R : Room} {s : State} {m : MethodId} {args : Array Value} {below : List Frame} {meth : Method} {c : Code} {H : Heap} {locs : List Loc} {cells slots : Nat}
/-- a frame seen from a rebased start, seen from the first start again -/
theorem vx_back9 {T S : State} {R' : Room} {k n : Nat} (X : Stand p l e R s m args below meth c T locs cells slots) (Y : Stand p l e R' ((T.setVm s.vm).setFrames (.invoking m args :: below)) m args below meth c T [] 0 0) (Z : Stand p l e R' ((T.setVm s.vm).setFrames (.invoking m args :: below)) m args below meth c S [] k n) :
    Stand p l e R s m args below meth c S locs (cells + k) (slots + n) := by
  have hW0 : s.WarmedH ((T.setVm s.vm).setFrames (.invoking m args :: below)).vm := State.WarmedH.refl s
  refine { admits := X.admits, cas := X.cas, clock := X.clock, frames := X.frames, room := X.room, hears := X.hears, method := X.method, code := X.code, here := Z.here, tail := Z.tail, warmed := State.WarmedH.trans hW0 Z.warmed, limits := Z.limits.trans (Y.limits.symm.trans X.limits), bytes := Z.bytes.trans (Y.bytes.symm.trans X.bytes), same := ?_ }
  obtain ⟨e1, e2⟩ := Z.same
  rw [State.setFrames_setFrames] at e1
  have h2 : (T.setVm s.vm).sameButNew (S.setVm s.vm) [] k n := ⟨e1, e2⟩
  have h3 := X.same.trans h2
  rw [List.append_nil] at h3
  exact h3
/-- from the machine's note that E is thrown here with this text -/
def vx_Note (p : Program) (l : Launch) (e : Env) (R : Room) (s : State) (m : MethodId) (args : Array Value) (below : List Frame) (meth : Method) (c : Code) (H : Heap) (locs : List Loc) (cells slots : Nat) (Q : State → Prop) (g : JFrame) (E text : String) : Prop :=
  ∀ T : State, T.heap = H → Stand p l e R s m args below meth c T locs cells slots → ∃ t, Steps p.tables e below ((T.setTop g).pushFrame (.throwNew E (some text) none)) t ∧ Q t
theorem vx_vm {pc : Nat} {ls : Array Slot} {rest : List Value} {Q : State → Prop} (hexec : p.tables.exec = Jvm.exec) (hl : l.stackTraces = false) {cls text : String} {names : List String} {nb : Nat} {A : Nat → Prop}
    (hcls : Bundle.fit cls = true) (hnames : ∀ n ∈ names, Bundle.fit n = true) (hsoe : (cls == "java/lang/StackOverflowError") = false) (hoom : (cls == "java/lang/OutOfMemoryError") = false)
    (hat : ∀ w ∈ vx_atM cls names, w.before args s = true) (hgood : ∀ w ∈ vx_atM cls names, vx_ot w = true)
    (hU : vx_Zq Bundle.tN "UNASSIGNED_STACK" Bundle.steD A s s.heap) (hN : vx_Zq Bundle.tN "SUPPRESSED_SENTINEL" Bundle.listD A s s.heap) (hS : va_S A s.heap H locs) (hsize : ls.size = c.maxLocals)
    (htext : (text == notModelled) = false) (hnb : (stringBytes (stringToUtf16 text)).size ≤ nb) (hnb1 : nb ≤ 1000)
    (hRframes : names.length + 4 < R.frames) (hRlocals : (rest.map fun v => v.category).sum + 10240 ≤ R.locals) (hshort : 13 * names.length + 55 ≤ 10240) (hRcells : cells + 3 ≤ R.cells) (hRslots : slots + (nb + 10) ≤ R.slots) (hlocks : meth.locks = false)
    (k : ∀ (H1 : Heap) (q9 : Addr) (ce : Cell), H.size ≤ H1.size → (∀ q : Nat, q < H.size → H1[q]? = H[q]?) → va_S A s.heap H1 locs → H1[q9]? = some ce → ce.vm = .none → s.vm.findClass cls = some ce.cls → vx_W p l e R s m args below meth c H1 locs (cells + 3) (slots + (nb + 10)) Q (F0 m pc ls rest) q9) :
    vx_Note p l e R s m args below meth c H locs cells slots Q (F0 m pc ls rest) cls text := by
  intro T hT X
  have htr : e.platform.stackTraces = false := (show e.platform.stackTraces = l.stackTraces by rw [X.admits.platform]).trans hl
  have Y := vx_rebase X (R' := { frames := R.frames, locals := R.locals, cells := 3, slots := nb + 10 }) (Nat.le_refl _) (Nat.le_refl _) hRcells hRslots
  have hhp : ((T.setVm s.vm).setFrames (.invoking m args :: below)).heap = H := hT
  have hW0 : s.WarmedH ((T.setVm s.vm).setFrames (.invoking m args :: below)).vm := State.WarmedH.refl s
  have hat' : ∀ w ∈ vx_atM cls names, w.before args ((T.setVm s.vm).setFrames (.invoking m args :: below)) = true := fun w hw => vx_ot_at hW0 rfl (hgood w hw) (hat w hw)
  have hU' : vx_Zq Bundle.tN "UNASSIGNED_STACK" Bundle.steD A ((T.setVm s.vm).setFrames (.invoking m args :: below)) ((T.setVm s.vm).setFrames (.invoking m args :: below)).heap := by rw [hhp]; exact vx_Zq.moved hW0.alike (hU.kept hS.2.1)
  have hN' : vx_Zq Bundle.tN "SUPPRESSED_SENTINEL" Bundle.listD A ((T.setVm s.vm).setFrames (.invoking m args :: below)) ((T.setVm s.vm).setFrames (.invoking m args :: below)).heap := by rw [hhp]; exact vx_Zq.moved hW0.alike (hN.kept hS.2.1)
  obtain ⟨S, q, ce, st, Z, hce, hcl', hv⟩ := vx_vmAt Y hexec htr (cls := cls) (names := names) (text := text) hcls hnames hsoe hoom (vx_own hat' (vx_isRefq hU'.1) (vx_isRefq hN'.1) hU'.2.word hN'.2.word) (fun x hx => nomatch hx) htext
    (by rw [Launch.admits_arrayLengthLimit X.admits]; omega) (by rw [Launch.admits_maxHeapBytes X.admits]; simp only [componentBytes]; omega)
    (g := F0 m pc ls rest) rfl hsize hRframes (by show 2 * 0 + (rest.map fun v => v.category).sum + 10240 ≤ R.locals; omega) hshort (by show 0 + 3 ≤ 3; omega) (by show 0 + (_ + 4 + 6) ≤ nb + 10; omega) hlocks
  obtain ⟨f1, f2⟩ := vx_frame Z.same
  have f1' : H.size ≤ S.heap.size := by rw [← hT]; exact f1
  have f2' : ∀ q : Nat, q < H.size → S.heap[q]? = H[q]? := fun q hq => by
    rw [← hT]
    exact f2 q (by rw [← hT] at hq; exact hq) (fun z hz => nomatch hz)
  have X5 := vx_back9 X Y Z
  have X6 : Stand p l e R s m args below meth c S locs (cells + 3) (slots + (nb + 10)) := { X5 with same := X5.same.mono (by omega) (by omega) }
  obtain ⟨t, a1, b1⟩ := k S.heap q ce f1' f2' ⟨Nat.le_trans hS.1 f1', fun q h1 h2 => (f2' q (Nat.lt_of_lt_of_le h1 hS.1)).trans (hS.2.1 q h1 h2), hS.2.2⟩ hce hv hcl' S rfl X6
  exact ⟨t, st t a1, b1⟩
/-- from the machine's note that NullPointerException is thrown here -/
def vx_NoteN (p : Program) (l : Launch) (e : Env) (R : Room) (s : State) (m : MethodId) (args : Array Value) (below : List Frame) (meth : Method) (c : Code) (H : Heap) (locs : List Loc) (cells slots : Nat) (Q : State → Prop) (g : JFrame) : Prop :=
  ∀ T : State, T.heap = H → Stand p l e R s m args below meth c T locs cells slots → ∃ t, Steps p.tables e below ((T.setTop g).pushFrame (.throwNew "java/lang/NullPointerException" none none)) t ∧ Q t
theorem vx_npe {pc : Nat} {ls : Array Slot} {rest : List Value} {Q : State → Prop} (hexec : p.tables.exec = Jvm.exec) (hl : l.stackTraces = false) {nb : Nat} {A : Nat → Prop}
    (hat : ∀ w ∈ vx_atN nb, w.before args s = true) (hgood : ∀ w ∈ vx_atN nb, vx_ot w = true)
    (hU : vx_Zq Bundle.tN "UNASSIGNED_STACK" Bundle.steD A s s.heap) (hN : vx_Zq Bundle.tN "SUPPRESSED_SENTINEL" Bundle.listD A s s.heap) (hS : va_S A s.heap H locs) (hsize : ls.size = c.maxLocals)
    (hRframes : 7 < R.frames) (hRlocals : (rest.map fun v => v.category).sum + 10240 ≤ R.locals) (hRcells : cells + 1 ≤ R.cells) (hRslots : slots + nb ≤ R.slots) (hlocks : meth.locks = false)
    (k : ∀ (H1 : Heap) (q9 : Addr) (ce : Cell), H.size ≤ H1.size → (∀ q : Nat, q < H.size → H1[q]? = H[q]?) → va_S A s.heap H1 locs → H1[q9]? = some ce → ce.vm = .none → s.vm.findClass "java/lang/NullPointerException" = some ce.cls → vx_W p l e R s m args below meth c H1 locs (cells + 1) (slots + nb) Q (F0 m pc ls rest) q9) :
    vx_NoteN p l e R s m args below meth c H locs cells slots Q (F0 m pc ls rest) := by
  intro T hT X
  have htr : e.platform.stackTraces = false := (show e.platform.stackTraces = l.stackTraces by rw [X.admits.platform]).trans hl
  have Y := vx_rebase X (R' := { frames := R.frames, locals := R.locals, cells := 1, slots := nb }) (Nat.le_refl _) (Nat.le_refl _) hRcells hRslots
  have hhp : ((T.setVm s.vm).setFrames (.invoking m args :: below)).heap = H := hT
  have hW0 : s.WarmedH ((T.setVm s.vm).setFrames (.invoking m args :: below)).vm := State.WarmedH.refl s
  have hat' : ∀ w ∈ vx_atN nb, w.before args ((T.setVm s.vm).setFrames (.invoking m args :: below)) = true := fun w hw => vx_ot_at hW0 rfl (hgood w hw) (hat w hw)
  have hU' : vx_Zq Bundle.tN "UNASSIGNED_STACK" Bundle.steD A ((T.setVm s.vm).setFrames (.invoking m args :: below)) ((T.setVm s.vm).setFrames (.invoking m args :: below)).heap := by rw [hhp]; exact vx_Zq.moved hW0.alike (hU.kept hS.2.1)
  have hN' : vx_Zq Bundle.tN "SUPPRESSED_SENTINEL" Bundle.listD A ((T.setVm s.vm).setFrames (.invoking m args :: below)) ((T.setVm s.vm).setFrames (.invoking m args :: below)).heap := by rw [hhp]; exact vx_Zq.moved hW0.alike (hN.kept hS.2.1)
  obtain ⟨S, q, ce, st, Z, hce, hcl', hv⟩ := vx_npeAt Y hexec htr (n := nb) (vx_own hat' (vx_isRefq hU'.1) (vx_isRefq hN'.1) hU'.2.word hN'.2.word) (fun x hx => nomatch hx)
    (g := F0 m pc ls rest) rfl hsize hRframes (by show 2 * 0 + (rest.map fun v => v.category).sum + 10240 ≤ R.locals; omega) (by show 0 + 1 ≤ 1; omega) (by show 0 + nb ≤ nb; omega) hlocks
  obtain ⟨f1, f2⟩ := vx_frame Z.same
  have f1' : H.size ≤ S.heap.size := by rw [← hT]; exact f1
  have f2' : ∀ q : Nat, q < H.size → S.heap[q]? = H[q]? := fun q hq => by
    rw [← hT]
    exact f2 q (by rw [← hT] at hq; exact hq) (fun z hz => nomatch hz)
  have X5 := vx_back9 X Y Z
  have X6 : Stand p l e R s m args below meth c S locs (cells + 1) (slots + nb) := { X5 with same := X5.same.mono (by omega) (by omega) }
  obtain ⟨t, a1, b1⟩ := k S.heap q ce f1' f2' ⟨Nat.le_trans hS.1 f1', fun q h1 h2 => (f2' q (Nat.lt_of_lt_of_le h1 hS.1)).trans (hS.2.1 q h1 h2), hS.2.2⟩ hce hv hcl' S rfl X6
  exact ⟨t, st t a1, b1⟩
variable {Q : State → Prop} {cc : ByteArray} {pc : Nat} {ls : Array Slot} {rest : List Value}
theorem vx_idivZ (hexec : p.tables.exec = Jvm.exec) (hb : c.code = cc) {a b : Int32} (h0 : b = 0) (d : decode cc pc = .ok (.idiv, 1)) (k : vx_Note p l e R s m args below meth c H locs cells slots Q (F0 m pc ls rest) "java/lang/ArithmeticException" "/ by zero") :
    W p l e R s m args below meth c H locs cells slots Q (F0 m pc ls (.int b :: .int a :: rest)) := by
  intro T hT X
  obtain ⟨t, st, q⟩ := k T hT X
  exact ⟨t, X.idivZero hexec (g := F0 m pc ls (.int b :: .int a :: rest)) rfl (a := a) (rest := rest) (by rw [h0]) (by rw [hb]; exact d) t st, q⟩
theorem vx_iremZ (hexec : p.tables.exec = Jvm.exec) (hb : c.code = cc) {a b : Int32} (h0 : b = 0) (d : decode cc pc = .ok (.irem, 1)) (k : vx_Note p l e R s m args below meth c H locs cells slots Q (F0 m pc ls rest) "java/lang/ArithmeticException" "/ by zero") :
    W p l e R s m args below meth c H locs cells slots Q (F0 m pc ls (.int b :: .int a :: rest)) := by
  intro T hT X
  obtain ⟨t, st, q⟩ := k T hT X
  exact ⟨t, X.iremZero hexec (g := F0 m pc ls (.int b :: .int a :: rest)) rfl (a := a) (rest := rest) (by rw [h0]) (by rw [hb]; exact d) t st, q⟩
theorem vx_ldivZ (hexec : p.tables.exec = Jvm.exec) (hb : c.code = cc) {a b : Int64} (h0 : b = 0) (d : decode cc pc = .ok (.ldiv, 1)) (k : vx_Note p l e R s m args below meth c H locs cells slots Q (F0 m pc ls rest) "java/lang/ArithmeticException" "/ by zero") :
    W p l e R s m args below meth c H locs cells slots Q (F0 m pc ls (.long b :: .long a :: rest)) := by
  intro T hT X
  obtain ⟨t, st, q⟩ := k T hT X
  exact ⟨t, X.ldivZero hexec (g := F0 m pc ls (.long b :: .long a :: rest)) rfl (a := a) (rest := rest) (by rw [h0]) (by rw [hb]; exact d) t st, q⟩
theorem vx_lremZ (hexec : p.tables.exec = Jvm.exec) (hb : c.code = cc) {a b : Int64} (h0 : b = 0) (d : decode cc pc = .ok (.lrem, 1)) (k : vx_Note p l e R s m args below meth c H locs cells slots Q (F0 m pc ls rest) "java/lang/ArithmeticException" "/ by zero") :
    W p l e R s m args below meth c H locs cells slots Q (F0 m pc ls (.long b :: .long a :: rest)) := by
  intro T hT X
  obtain ⟨t, st, q⟩ := k T hT X
  exact ⟨t, X.lremZero hexec (g := F0 m pc ls (.long b :: .long a :: rest)) rfl (a := a) (rest := rest) (by rw [h0]) (by rw [hb]; exact d) t st, q⟩
theorem vx_ialdZ {D : va_G} {cl : List vw_C} {ws : va_W} {tys : List (ClassId × FieldType)} {a : Nat} (hexec : p.tables.exec = Jvm.exec) (hb : c.code = cc) (hK : va_K D cl tys s) (hP : va_P D cl ws H) (q0 t0 : Nat) {cA : ClassId} {n : Nat} {f : Nat → Int32} (ha : ws[q0]? = some (a, .inl (cA, n, .inl f))) (ht : tys[t0]? = some (cA, .int)) {i : Int32} (hout : ¬ vp_in i n) (hdg : decode cc pc = .ok (.iaload, 1))
    (k : ∀ tx : String, tx = (toString "Index " ++ toString i ++ toString " out of bounds for length " ++ toString n : String) → vx_Note p l e R s m args below meth c H locs cells slots Q (F0 m pc ls rest) "java/lang/ArrayIndexOutOfBoundsException" tx) : W p l e R s m args below meth c H locs cells slots Q (F0 m pc ls (.int i :: .ref a :: rest)) := by
  intro T hT X
  obtain ⟨t, st, q⟩ := k _ rfl T hT X
  refine ⟨t, ?_, q⟩
  have h1 := X.ialoadOut hexec (by rw [hT]; exact hP q0 _ ha) ((hK.2 t0 _ ht).1 n (fun j => .int (f j))) (j := i) (by show (i < 0 ∨ (arrV _ _ _).slots.size ≤ _); rw [arrV_size]; exact Classical.byContradiction hout) (g := F0 m pc ls (.int i :: .ref a :: rest)) rfl (rest := rest) rfl (by rw [hb]; exact hdg) t
  simp only [arrV_size] at h1
  exact h1 st
theorem vx_iastZ {D : va_G} {cl : List vw_C} {ws : va_W} {tys : List (ClassId × FieldType)} {a : Nat} (hexec : p.tables.exec = Jvm.exec) (hb : c.code = cc) (hK : va_K D cl tys s) (hP : va_P D cl ws H) (q0 t0 : Nat) {cA : ClassId} {n : Nat} {f : Nat → Int32} (ha : ws[q0]? = some (a, .inl (cA, n, .inl f))) (ht : tys[t0]? = some (cA, .int)) {i : Int32} {x : Int32} (hout : ¬ vp_in i n) (hdg : decode cc pc = .ok (.iastore, 1))
    (k : ∀ tx : String, tx = (toString "Index " ++ toString i ++ toString " out of bounds for length " ++ toString n : String) → vx_Note p l e R s m args below meth c H locs cells slots Q (F0 m pc ls rest) "java/lang/ArrayIndexOutOfBoundsException" tx) : W p l e R s m args below meth c H locs cells slots Q (F0 m pc ls (.int x :: .int i :: .ref a :: rest)) := by
  intro T hT X
  obtain ⟨t, st, q⟩ := k _ rfl T hT X
  refine ⟨t, ?_, q⟩
  have h1 := X.iastoreOut hexec (by rw [hT]; exact hP q0 _ ha) ((hK.2 t0 _ ht).1 n (fun j => .int (f j))) (j := i) (by show (i < 0 ∨ (arrV _ _ _).slots.size ≤ _); rw [arrV_size]; exact Classical.byContradiction hout) (g := F0 m pc ls (.int x :: .int i :: .ref a :: rest)) rfl (rest := rest) rfl (by rw [hb]; exact hdg) t
  simp only [arrV_size] at h1
  exact h1 st
theorem vx_baldZ {D : va_G} {cl : List vw_C} {ws : va_W} {tys : List (ClassId × FieldType)} {a : Nat} (hexec : p.tables.exec = Jvm.exec) (hb : c.code = cc) (hK : va_K D cl tys s) (hP : va_P D cl ws H) (q0 t0 : Nat) {cA : ClassId} {n : Nat} {f : Nat → Int32} (ha : ws[q0]? = some (a, .inl (cA, n, .inl f))) (ht : tys[t0]? = some (cA, .byte)) {i : Int32} (hout : ¬ vp_in i n) (hdg : decode cc pc = .ok (.baload, 1))
    (k : ∀ tx : String, tx = (toString "Index " ++ toString i ++ toString " out of bounds for length " ++ toString n : String) → vx_Note p l e R s m args below meth c H locs cells slots Q (F0 m pc ls rest) "java/lang/ArrayIndexOutOfBoundsException" tx) : W p l e R s m args below meth c H locs cells slots Q (F0 m pc ls (.int i :: .ref a :: rest)) := by
  intro T hT X
  obtain ⟨t, st, q⟩ := k _ rfl T hT X
  refine ⟨t, ?_, q⟩
  have h1 := X.baloadOut hexec (by rw [hT]; exact hP q0 _ ha) ((hK.2 t0 _ ht).1 n (fun j => .int (f j))) (j := i) (by show (i < 0 ∨ (arrV _ _ _).slots.size ≤ _); rw [arrV_size]; exact Classical.byContradiction hout) (g := F0 m pc ls (.int i :: .ref a :: rest)) rfl (rest := rest) rfl (by rw [hb]; exact hdg) t
  simp only [arrV_size] at h1
  exact h1 st
theorem vx_bastZ {D : va_G} {cl : List vw_C} {ws : va_W} {tys : List (ClassId × FieldType)} {a : Nat} (hexec : p.tables.exec = Jvm.exec) (hb : c.code = cc) (hK : va_K D cl tys s) (hP : va_P D cl ws H) (q0 t0 : Nat) {cA : ClassId} {n : Nat} {f : Nat → Int32} (ha : ws[q0]? = some (a, .inl (cA, n, .inl f))) (ht : tys[t0]? = some (cA, .byte)) {i : Int32} {x : Int32} (hout : ¬ vp_in i n) (hdg : decode cc pc = .ok (.bastore, 1))
    (k : ∀ tx : String, tx = (toString "Index " ++ toString i ++ toString " out of bounds for length " ++ toString n : String) → vx_Note p l e R s m args below meth c H locs cells slots Q (F0 m pc ls rest) "java/lang/ArrayIndexOutOfBoundsException" tx) : W p l e R s m args below meth c H locs cells slots Q (F0 m pc ls (.int x :: .int i :: .ref a :: rest)) := by
  intro T hT X
  obtain ⟨t, st, q⟩ := k _ rfl T hT X
  refine ⟨t, ?_, q⟩
  have h1 := X.bastoreOut hexec (by rw [hT]; exact hP q0 _ ha) ((hK.2 t0 _ ht).1 n (fun j => .int (f j))) (j := i) (by show (i < 0 ∨ (arrV _ _ _).slots.size ≤ _); rw [arrV_size]; exact Classical.byContradiction hout) (g := F0 m pc ls (.int x :: .int i :: .ref a :: rest)) rfl (rest := rest) rfl (by rw [hb]; exact hdg) t
  simp only [arrV_size] at h1
  exact h1 st
theorem vx_zaldZ {D : va_G} {cl : List vw_C} {ws : va_W} {tys : List (ClassId × FieldType)} {a : Nat} (hexec : p.tables.exec = Jvm.exec) (hb : c.code = cc) (hK : va_K D cl tys s) (hP : va_P D cl ws H) (q0 t0 : Nat) {cA : ClassId} {n : Nat} {f : Nat → Int32} (ha : ws[q0]? = some (a, .inl (cA, n, .inl f))) (ht : tys[t0]? = some (cA, .boolean)) {i : Int32} (hout : ¬ vp_in i n) (hdg : decode cc pc = .ok (.baload, 1))
    (k : ∀ tx : String, tx = (toString "Index " ++ toString i ++ toString " out of bounds for length " ++ toString n : String) → vx_Note p l e R s m args below meth c H locs cells slots Q (F0 m pc ls rest) "java/lang/ArrayIndexOutOfBoundsException" tx) : W p l e R s m args below meth c H locs cells slots Q (F0 m pc ls (.int i :: .ref a :: rest)) := by
  intro T hT X
  obtain ⟨t, st, q⟩ := k _ rfl T hT X
  refine ⟨t, ?_, q⟩
  have h1 := X.baloadOut hexec (by rw [hT]; exact hP q0 _ ha) ((hK.2 t0 _ ht).1 n (fun j => .int (f j))) (j := i) (by show (i < 0 ∨ (arrV _ _ _).slots.size ≤ _); rw [arrV_size]; exact Classical.byContradiction hout) (g := F0 m pc ls (.int i :: .ref a :: rest)) rfl (rest := rest) rfl (by rw [hb]; exact hdg) t
  simp only [arrV_size] at h1
  exact h1 st
theorem vx_zastZ {D : va_G} {cl : List vw_C} {ws : va_W} {tys : List (ClassId × FieldType)} {a : Nat} (hexec : p.tables.exec = Jvm.exec) (hb : c.code = cc) (hK : va_K D cl tys s) (hP : va_P D cl ws H) (q0 t0 : Nat) {cA : ClassId} {n : Nat} {f : Nat → Int32} (ha : ws[q0]? = some (a, .inl (cA, n, .inl f))) (ht : tys[t0]? = some (cA, .boolean)) {i : Int32} {x : Int32} (hout : ¬ vp_in i n) (hdg : decode cc pc = .ok (.bastore, 1))
    (k : ∀ tx : String, tx = (toString "Index " ++ toString i ++ toString " out of bounds for length " ++ toString n : String) → vx_Note p l e R s m args below meth c H locs cells slots Q (F0 m pc ls rest) "java/lang/ArrayIndexOutOfBoundsException" tx) : W p l e R s m args below meth c H locs cells slots Q (F0 m pc ls (.int x :: .int i :: .ref a :: rest)) := by
  intro T hT X
  obtain ⟨t, st, q⟩ := k _ rfl T hT X
  refine ⟨t, ?_, q⟩
  have h1 := X.bastoreOut hexec (by rw [hT]; exact hP q0 _ ha) ((hK.2 t0 _ ht).1 n (fun j => .int (f j))) (j := i) (by show (i < 0 ∨ (arrV _ _ _).slots.size ≤ _); rw [arrV_size]; exact Classical.byContradiction hout) (g := F0 m pc ls (.int x :: .int i :: .ref a :: rest)) rfl (rest := rest) rfl (by rw [hb]; exact hdg) t
  simp only [arrV_size] at h1
  exact h1 st
theorem vx_caldZ {D : va_G} {cl : List vw_C} {ws : va_W} {tys : List (ClassId × FieldType)} {a : Nat} (hexec : p.tables.exec = Jvm.exec) (hb : c.code = cc) (hK : va_K D cl tys s) (hP : va_P D cl ws H) (q0 t0 : Nat) {cA : ClassId} {n : Nat} {f : Nat → Int32} (ha : ws[q0]? = some (a, .inl (cA, n, .inl f))) (ht : tys[t0]? = some (cA, .char)) {i : Int32} (hout : ¬ vp_in i n) (hdg : decode cc pc = .ok (.caload, 1))
    (k : ∀ tx : String, tx = (toString "Index " ++ toString i ++ toString " out of bounds for length " ++ toString n : String) → vx_Note p l e R s m args below meth c H locs cells slots Q (F0 m pc ls rest) "java/lang/ArrayIndexOutOfBoundsException" tx) : W p l e R s m args below meth c H locs cells slots Q (F0 m pc ls (.int i :: .ref a :: rest)) := by
  intro T hT X
  obtain ⟨t, st, q⟩ := k _ rfl T hT X
  refine ⟨t, ?_, q⟩
  have h1 := X.caloadOut hexec (by rw [hT]; exact hP q0 _ ha) ((hK.2 t0 _ ht).1 n (fun j => .int (f j))) (j := i) (by show (i < 0 ∨ (arrV _ _ _).slots.size ≤ _); rw [arrV_size]; exact Classical.byContradiction hout) (g := F0 m pc ls (.int i :: .ref a :: rest)) rfl (rest := rest) rfl (by rw [hb]; exact hdg) t
  simp only [arrV_size] at h1
  exact h1 st
theorem vx_castZ {D : va_G} {cl : List vw_C} {ws : va_W} {tys : List (ClassId × FieldType)} {a : Nat} (hexec : p.tables.exec = Jvm.exec) (hb : c.code = cc) (hK : va_K D cl tys s) (hP : va_P D cl ws H) (q0 t0 : Nat) {cA : ClassId} {n : Nat} {f : Nat → Int32} (ha : ws[q0]? = some (a, .inl (cA, n, .inl f))) (ht : tys[t0]? = some (cA, .char)) {i : Int32} {x : Int32} (hout : ¬ vp_in i n) (hdg : decode cc pc = .ok (.castore, 1))
    (k : ∀ tx : String, tx = (toString "Index " ++ toString i ++ toString " out of bounds for length " ++ toString n : String) → vx_Note p l e R s m args below meth c H locs cells slots Q (F0 m pc ls rest) "java/lang/ArrayIndexOutOfBoundsException" tx) : W p l e R s m args below meth c H locs cells slots Q (F0 m pc ls (.int x :: .int i :: .ref a :: rest)) := by
  intro T hT X
  obtain ⟨t, st, q⟩ := k _ rfl T hT X
  refine ⟨t, ?_, q⟩
  have h1 := X.castoreOut hexec (by rw [hT]; exact hP q0 _ ha) ((hK.2 t0 _ ht).1 n (fun j => .int (f j))) (j := i) (by show (i < 0 ∨ (arrV _ _ _).slots.size ≤ _); rw [arrV_size]; exact Classical.byContradiction hout) (g := F0 m pc ls (.int x :: .int i :: .ref a :: rest)) rfl (rest := rest) rfl (by rw [hb]; exact hdg) t
  simp only [arrV_size] at h1
  exact h1 st
theorem vx_saldZ {D : va_G} {cl : List vw_C} {ws : va_W} {tys : List (ClassId × FieldType)} {a : Nat} (hexec : p.tables.exec = Jvm.exec) (hb : c.code = cc) (hK : va_K D cl tys s) (hP : va_P D cl ws H) (q0 t0 : Nat) {cA : ClassId} {n : Nat} {f : Nat → Int32} (ha : ws[q0]? = some (a, .inl (cA, n, .inl f))) (ht : tys[t0]? = some (cA, .short)) {i : Int32} (hout : ¬ vp_in i n) (hdg : decode cc pc = .ok (.saload, 1))
    (k : ∀ tx : String, tx = (toString "Index " ++ toString i ++ toString " out of bounds for length " ++ toString n : String) → vx_Note p l e R s m args below meth c H locs cells slots Q (F0 m pc ls rest) "java/lang/ArrayIndexOutOfBoundsException" tx) : W p l e R s m args below meth c H locs cells slots Q (F0 m pc ls (.int i :: .ref a :: rest)) := by
  intro T hT X
  obtain ⟨t, st, q⟩ := k _ rfl T hT X
  refine ⟨t, ?_, q⟩
  have h1 := X.saloadOut hexec (by rw [hT]; exact hP q0 _ ha) ((hK.2 t0 _ ht).1 n (fun j => .int (f j))) (j := i) (by show (i < 0 ∨ (arrV _ _ _).slots.size ≤ _); rw [arrV_size]; exact Classical.byContradiction hout) (g := F0 m pc ls (.int i :: .ref a :: rest)) rfl (rest := rest) rfl (by rw [hb]; exact hdg) t
  simp only [arrV_size] at h1
  exact h1 st
theorem vx_sastZ {D : va_G} {cl : List vw_C} {ws : va_W} {tys : List (ClassId × FieldType)} {a : Nat} (hexec : p.tables.exec = Jvm.exec) (hb : c.code = cc) (hK : va_K D cl tys s) (hP : va_P D cl ws H) (q0 t0 : Nat) {cA : ClassId} {n : Nat} {f : Nat → Int32} (ha : ws[q0]? = some (a, .inl (cA, n, .inl f))) (ht : tys[t0]? = some (cA, .short)) {i : Int32} {x : Int32} (hout : ¬ vp_in i n) (hdg : decode cc pc = .ok (.sastore, 1))
    (k : ∀ tx : String, tx = (toString "Index " ++ toString i ++ toString " out of bounds for length " ++ toString n : String) → vx_Note p l e R s m args below meth c H locs cells slots Q (F0 m pc ls rest) "java/lang/ArrayIndexOutOfBoundsException" tx) : W p l e R s m args below meth c H locs cells slots Q (F0 m pc ls (.int x :: .int i :: .ref a :: rest)) := by
  intro T hT X
  obtain ⟨t, st, q⟩ := k _ rfl T hT X
  refine ⟨t, ?_, q⟩
  have h1 := X.sastoreOut hexec (by rw [hT]; exact hP q0 _ ha) ((hK.2 t0 _ ht).1 n (fun j => .int (f j))) (j := i) (by show (i < 0 ∨ (arrV _ _ _).slots.size ≤ _); rw [arrV_size]; exact Classical.byContradiction hout) (g := F0 m pc ls (.int x :: .int i :: .ref a :: rest)) rfl (rest := rest) rfl (by rw [hb]; exact hdg) t
  simp only [arrV_size] at h1
  exact h1 st
theorem vx_laldZ {D : va_G} {cl : List vw_C} {ws : va_W} {tys : List (ClassId × FieldType)} {a : Nat} (hexec : p.tables.exec = Jvm.exec) (hb : c.code = cc) (hK : va_K D cl tys s) (hP : va_P D cl ws H) (q0 t0 : Nat) {cA : ClassId} {n : Nat} {f : Nat → Int64} (ha : ws[q0]? = some (a, .inl (cA, n, .inr (.inl f)))) (ht : tys[t0]? = some (cA, .long)) {i : Int32} (hout : ¬ vp_in i n) (hdg : decode cc pc = .ok (.laload, 1))
    (k : ∀ tx : String, tx = (toString "Index " ++ toString i ++ toString " out of bounds for length " ++ toString n : String) → vx_Note p l e R s m args below meth c H locs cells slots Q (F0 m pc ls rest) "java/lang/ArrayIndexOutOfBoundsException" tx) : W p l e R s m args below meth c H locs cells slots Q (F0 m pc ls (.int i :: .ref a :: rest)) := by
  intro T hT X
  obtain ⟨t, st, q⟩ := k _ rfl T hT X
  refine ⟨t, ?_, q⟩
  have h1 := X.laloadOut hexec (by rw [hT]; exact hP q0 _ ha) ((hK.2 t0 _ ht).1 n (fun j => .long (f j))) (j := i) (by show (i < 0 ∨ (arrV _ _ _).slots.size ≤ _); rw [arrV_size]; exact Classical.byContradiction hout) (g := F0 m pc ls (.int i :: .ref a :: rest)) rfl (rest := rest) rfl (by rw [hb]; exact hdg) t
  simp only [arrV_size] at h1
  exact h1 st
theorem vx_lastZ {D : va_G} {cl : List vw_C} {ws : va_W} {tys : List (ClassId × FieldType)} {a : Nat} (hexec : p.tables.exec = Jvm.exec) (hb : c.code = cc) (hK : va_K D cl tys s) (hP : va_P D cl ws H) (q0 t0 : Nat) {cA : ClassId} {n : Nat} {f : Nat → Int64} (ha : ws[q0]? = some (a, .inl (cA, n, .inr (.inl f)))) (ht : tys[t0]? = some (cA, .long)) {i : Int32} {x : Int64} (hout : ¬ vp_in i n) (hdg : decode cc pc = .ok (.lastore, 1))
    (k : ∀ tx : String, tx = (toString "Index " ++ toString i ++ toString " out of bounds for length " ++ toString n : String) → vx_Note p l e R s m args below meth c H locs cells slots Q (F0 m pc ls rest) "java/lang/ArrayIndexOutOfBoundsException" tx) : W p l e R s m args below meth c H locs cells slots Q (F0 m pc ls (.long x :: .int i :: .ref a :: rest)) := by
  intro T hT X
  obtain ⟨t, st, q⟩ := k _ rfl T hT X
  refine ⟨t, ?_, q⟩
  have h1 := X.lastoreOut hexec (by rw [hT]; exact hP q0 _ ha) ((hK.2 t0 _ ht).1 n (fun j => .long (f j))) (j := i) (by show (i < 0 ∨ (arrV _ _ _).slots.size ≤ _); rw [arrV_size]; exact Classical.byContradiction hout) (g := F0 m pc ls (.long x :: .int i :: .ref a :: rest)) rfl (rest := rest) rfl (by rw [hb]; exact hdg) t
  simp only [arrV_size] at h1
  exact h1 st
theorem vx_faldZ {D : va_G} {cl : List vw_C} {ws : va_W} {tys : List (ClassId × FieldType)} {a : Nat} (hexec : p.tables.exec = Jvm.exec) (hb : c.code = cc) (hK : va_K D cl tys s) (hP : va_P D cl ws H) (q0 t0 : Nat) {cA : ClassId} {n : Nat} {f : Nat → UInt32} (ha : ws[q0]? = some (a, .inl (cA, n, .inr (.inr (.inl f))))) (ht : tys[t0]? = some (cA, .float)) {i : Int32} (hout : ¬ vp_in i n) (hdg : decode cc pc = .ok (.faload, 1))
    (k : ∀ tx : String, tx = (toString "Index " ++ toString i ++ toString " out of bounds for length " ++ toString n : String) → vx_Note p l e R s m args below meth c H locs cells slots Q (F0 m pc ls rest) "java/lang/ArrayIndexOutOfBoundsException" tx) : W p l e R s m args below meth c H locs cells slots Q (F0 m pc ls (.int i :: .ref a :: rest)) := by
  intro T hT X
  obtain ⟨t, st, q⟩ := k _ rfl T hT X
  refine ⟨t, ?_, q⟩
  have h1 := X.faloadOut hexec (by rw [hT]; exact hP q0 _ ha) ((hK.2 t0 _ ht).1 n (fun j => .float (f j))) (j := i) (by show (i < 0 ∨ (arrV _ _ _).slots.size ≤ _); rw [arrV_size]; exact Classical.byContradiction hout) (g := F0 m pc ls (.int i :: .ref a :: rest)) rfl (rest := rest) rfl (by rw [hb]; exact hdg) t
  simp only [arrV_size] at h1
  exact h1 st
theorem vx_fastZ {D : va_G} {cl : List vw_C} {ws : va_W} {tys : List (ClassId × FieldType)} {a : Nat} (hexec : p.tables.exec = Jvm.exec) (hb : c.code = cc) (hK : va_K D cl tys s) (hP : va_P D cl ws H) (q0 t0 : Nat) {cA : ClassId} {n : Nat} {f : Nat → UInt32} (ha : ws[q0]? = some (a, .inl (cA, n, .inr (.inr (.inl f))))) (ht : tys[t0]? = some (cA, .float)) {i : Int32} {x : UInt32} (hout : ¬ vp_in i n) (hdg : decode cc pc = .ok (.fastore, 1))
    (k : ∀ tx : String, tx = (toString "Index " ++ toString i ++ toString " out of bounds for length " ++ toString n : String) → vx_Note p l e R s m args below meth c H locs cells slots Q (F0 m pc ls rest) "java/lang/ArrayIndexOutOfBoundsException" tx) : W p l e R s m args below meth c H locs cells slots Q (F0 m pc ls (.float x :: .int i :: .ref a :: rest)) := by
  intro T hT X
  obtain ⟨t, st, q⟩ := k _ rfl T hT X
  refine ⟨t, ?_, q⟩
  have h1 := X.fastoreOut hexec (by rw [hT]; exact hP q0 _ ha) ((hK.2 t0 _ ht).1 n (fun j => .float (f j))) (j := i) (by show (i < 0 ∨ (arrV _ _ _).slots.size ≤ _); rw [arrV_size]; exact Classical.byContradiction hout) (g := F0 m pc ls (.float x :: .int i :: .ref a :: rest)) rfl (rest := rest) rfl (by rw [hb]; exact hdg) t
  simp only [arrV_size] at h1
  exact h1 st
theorem vx_daldZ {D : va_G} {cl : List vw_C} {ws : va_W} {tys : List (ClassId × FieldType)} {a : Nat} (hexec : p.tables.exec = Jvm.exec) (hb : c.code = cc) (hK : va_K D cl tys s) (hP : va_P D cl ws H) (q0 t0 : Nat) {cA : ClassId} {n : Nat} {f : Nat → UInt64} (ha : ws[q0]? = some (a, .inl (cA, n, .inr (.inr (.inr (.inl f)))))) (ht : tys[t0]? = some (cA, .double)) {i : Int32} (hout : ¬ vp_in i n) (hdg : decode cc pc = .ok (.daload, 1))
    (k : ∀ tx : String, tx = (toString "Index " ++ toString i ++ toString " out of bounds for length " ++ toString n : String) → vx_Note p l e R s m args below meth c H locs cells slots Q (F0 m pc ls rest) "java/lang/ArrayIndexOutOfBoundsException" tx) : W p l e R s m args below meth c H locs cells slots Q (F0 m pc ls (.int i :: .ref a :: rest)) := by
  intro T hT X
  obtain ⟨t, st, q⟩ := k _ rfl T hT X
  refine ⟨t, ?_, q⟩
  have h1 := X.daloadOut hexec (by rw [hT]; exact hP q0 _ ha) ((hK.2 t0 _ ht).1 n (fun j => .double (f j))) (j := i) (by show (i < 0 ∨ (arrV _ _ _).slots.size ≤ _); rw [arrV_size]; exact Classical.byContradiction hout) (g := F0 m pc ls (.int i :: .ref a :: rest)) rfl (rest := rest) rfl (by rw [hb]; exact hdg) t
  simp only [arrV_size] at h1
  exact h1 st
theorem vx_dastZ {D : va_G} {cl : List vw_C} {ws : va_W} {tys : List (ClassId × FieldType)} {a : Nat} (hexec : p.tables.exec = Jvm.exec) (hb : c.code = cc) (hK : va_K D cl tys s) (hP : va_P D cl ws H) (q0 t0 : Nat) {cA : ClassId} {n : Nat} {f : Nat → UInt64} (ha : ws[q0]? = some (a, .inl (cA, n, .inr (.inr (.inr (.inl f)))))) (ht : tys[t0]? = some (cA, .double)) {i : Int32} {x : UInt64} (hout : ¬ vp_in i n) (hdg : decode cc pc = .ok (.dastore, 1))
    (k : ∀ tx : String, tx = (toString "Index " ++ toString i ++ toString " out of bounds for length " ++ toString n : String) → vx_Note p l e R s m args below meth c H locs cells slots Q (F0 m pc ls rest) "java/lang/ArrayIndexOutOfBoundsException" tx) : W p l e R s m args below meth c H locs cells slots Q (F0 m pc ls (.double x :: .int i :: .ref a :: rest)) := by
  intro T hT X
  obtain ⟨t, st, q⟩ := k _ rfl T hT X
  refine ⟨t, ?_, q⟩
  have h1 := X.dastoreOut hexec (by rw [hT]; exact hP q0 _ ha) ((hK.2 t0 _ ht).1 n (fun j => .double (f j))) (j := i) (by show (i < 0 ∨ (arrV _ _ _).slots.size ≤ _); rw [arrV_size]; exact Classical.byContradiction hout) (g := F0 m pc ls (.double x :: .int i :: .ref a :: rest)) rfl (rest := rest) rfl (by rw [hb]; exact hdg) t
  simp only [arrV_size] at h1
  exact h1 st
theorem vx_arraylengthN (hexec : p.tables.exec = Jvm.exec) (hb : c.code = cc) (hdg : decode cc pc = .ok (.arraylength, 1)) (k : vx_NoteN p l e R s m args below meth c H locs cells slots Q (F0 m pc ls rest)) : W p l e R s m args below meth c H locs cells slots Q (F0 m pc ls (.null :: rest)) := by
  intro T hT X
  obtain ⟨t, st, q⟩ := k T hT X
  exact ⟨t, X.arraylengthNull hexec (g := F0 m pc ls (.null :: rest)) rfl (rest := rest) rfl (by rw [hb]; exact hdg) t st, q⟩
theorem vx_ialoadN (hexec : p.tables.exec = Jvm.exec) (hb : c.code = cc) {i : Int32} (hdg : decode cc pc = .ok (.iaload, 1)) (k : vx_NoteN p l e R s m args below meth c H locs cells slots Q (F0 m pc ls rest)) : W p l e R s m args below meth c H locs cells slots Q (F0 m pc ls (.int i :: .null :: rest)) := by
  intro T hT X
  obtain ⟨t, st, q⟩ := k T hT X
  exact ⟨t, X.ialoadNull hexec (g := F0 m pc ls (.int i :: .null :: rest)) rfl (rest := rest) rfl (by rw [hb]; exact hdg) t st, q⟩
theorem vx_laloadN (hexec : p.tables.exec = Jvm.exec) (hb : c.code = cc) {i : Int32} (hdg : decode cc pc = .ok (.laload, 1)) (k : vx_NoteN p l e R s m args below meth c H locs cells slots Q (F0 m pc ls rest)) : W p l e R s m args below meth c H locs cells slots Q (F0 m pc ls (.int i :: .null :: rest)) := by
  intro T hT X
  obtain ⟨t, st, q⟩ := k T hT X
  exact ⟨t, X.laloadNull hexec (g := F0 m pc ls (.int i :: .null :: rest)) rfl (rest := rest) rfl (by rw [hb]; exact hdg) t st, q⟩
theorem vx_faloadN (hexec : p.tables.exec = Jvm.exec) (hb : c.code = cc) {i : Int32} (hdg : decode cc pc = .ok (.faload, 1)) (k : vx_NoteN p l e R s m args below meth c H locs cells slots Q (F0 m pc ls rest)) : W p l e R s m args below meth c H locs cells slots Q (F0 m pc ls (.int i :: .null :: rest)) := by
  intro T hT X
  obtain ⟨t, st, q⟩ := k T hT X
  exact ⟨t, X.faloadNull hexec (g := F0 m pc ls (.int i :: .null :: rest)) rfl (rest := rest) rfl (by rw [hb]; exact hdg) t st, q⟩
theorem vx_daloadN (hexec : p.tables.exec = Jvm.exec) (hb : c.code = cc) {i : Int32} (hdg : decode cc pc = .ok (.daload, 1)) (k : vx_NoteN p l e R s m args below meth c H locs cells slots Q (F0 m pc ls rest)) : W p l e R s m args below meth c H locs cells slots Q (F0 m pc ls (.int i :: .null :: rest)) := by
  intro T hT X
  obtain ⟨t, st, q⟩ := k T hT X
  exact ⟨t, X.daloadNull hexec (g := F0 m pc ls (.int i :: .null :: rest)) rfl (rest := rest) rfl (by rw [hb]; exact hdg) t st, q⟩
theorem vx_aaloadN (hexec : p.tables.exec = Jvm.exec) (hb : c.code = cc) {i : Int32} (hdg : decode cc pc = .ok (.aaload, 1)) (k : vx_NoteN p l e R s m args below meth c H locs cells slots Q (F0 m pc ls rest)) : W p l e R s m args below meth c H locs cells slots Q (F0 m pc ls (.int i :: .null :: rest)) := by
  intro T hT X
  obtain ⟨t, st, q⟩ := k T hT X
  exact ⟨t, X.aaloadNull hexec (g := F0 m pc ls (.int i :: .null :: rest)) rfl (rest := rest) rfl (by rw [hb]; exact hdg) t st, q⟩
theorem vx_baloadN (hexec : p.tables.exec = Jvm.exec) (hb : c.code = cc) {i : Int32} (hdg : decode cc pc = .ok (.baload, 1)) (k : vx_NoteN p l e R s m args below meth c H locs cells slots Q (F0 m pc ls rest)) : W p l e R s m args below meth c H locs cells slots Q (F0 m pc ls (.int i :: .null :: rest)) := by
  intro T hT X
  obtain ⟨t, st, q⟩ := k T hT X
  exact ⟨t, X.baloadNull hexec (g := F0 m pc ls (.int i :: .null :: rest)) rfl (rest := rest) rfl (by rw [hb]; exact hdg) t st, q⟩
theorem vx_caloadN (hexec : p.tables.exec = Jvm.exec) (hb : c.code = cc) {i : Int32} (hdg : decode cc pc = .ok (.caload, 1)) (k : vx_NoteN p l e R s m args below meth c H locs cells slots Q (F0 m pc ls rest)) : W p l e R s m args below meth c H locs cells slots Q (F0 m pc ls (.int i :: .null :: rest)) := by
  intro T hT X
  obtain ⟨t, st, q⟩ := k T hT X
  exact ⟨t, X.caloadNull hexec (g := F0 m pc ls (.int i :: .null :: rest)) rfl (rest := rest) rfl (by rw [hb]; exact hdg) t st, q⟩
theorem vx_saloadN (hexec : p.tables.exec = Jvm.exec) (hb : c.code = cc) {i : Int32} (hdg : decode cc pc = .ok (.saload, 1)) (k : vx_NoteN p l e R s m args below meth c H locs cells slots Q (F0 m pc ls rest)) : W p l e R s m args below meth c H locs cells slots Q (F0 m pc ls (.int i :: .null :: rest)) := by
  intro T hT X
  obtain ⟨t, st, q⟩ := k T hT X
  exact ⟨t, X.saloadNull hexec (g := F0 m pc ls (.int i :: .null :: rest)) rfl (rest := rest) rfl (by rw [hb]; exact hdg) t st, q⟩
theorem vx_iastoreN (hexec : p.tables.exec = Jvm.exec) (hb : c.code = cc) {x : Int32} {i : Int32} (hdg : decode cc pc = .ok (.iastore, 1)) (k : vx_NoteN p l e R s m args below meth c H locs cells slots Q (F0 m pc ls rest)) : W p l e R s m args below meth c H locs cells slots Q (F0 m pc ls (.int x :: .int i :: .null :: rest)) := by
  intro T hT X
  obtain ⟨t, st, q⟩ := k T hT X
  exact ⟨t, X.iastoreNull hexec (g := F0 m pc ls (.int x :: .int i :: .null :: rest)) rfl (rest := rest) rfl (by rw [hb]; exact hdg) t st, q⟩
theorem vx_lastoreN (hexec : p.tables.exec = Jvm.exec) (hb : c.code = cc) {x : Int64} {i : Int32} (hdg : decode cc pc = .ok (.lastore, 1)) (k : vx_NoteN p l e R s m args below meth c H locs cells slots Q (F0 m pc ls rest)) : W p l e R s m args below meth c H locs cells slots Q (F0 m pc ls (.long x :: .int i :: .null :: rest)) := by
  intro T hT X
  obtain ⟨t, st, q⟩ := k T hT X
  exact ⟨t, X.lastoreNull hexec (g := F0 m pc ls (.long x :: .int i :: .null :: rest)) rfl (rest := rest) rfl (by rw [hb]; exact hdg) t st, q⟩
theorem vx_fastoreN (hexec : p.tables.exec = Jvm.exec) (hb : c.code = cc) {x : UInt32} {i : Int32} (hdg : decode cc pc = .ok (.fastore, 1)) (k : vx_NoteN p l e R s m args below meth c H locs cells slots Q (F0 m pc ls rest)) : W p l e R s m args below meth c H locs cells slots Q (F0 m pc ls (.float x :: .int i :: .null :: rest)) := by
  intro T hT X
  obtain ⟨t, st, q⟩ := k T hT X
  exact ⟨t, X.fastoreNull hexec (g := F0 m pc ls (.float x :: .int i :: .null :: rest)) rfl (rest := rest) rfl (by rw [hb]; exact hdg) t st, q⟩
theorem vx_dastoreN (hexec : p.tables.exec = Jvm.exec) (hb : c.code = cc) {x : UInt64} {i : Int32} (hdg : decode cc pc = .ok (.dastore, 1)) (k : vx_NoteN p l e R s m args below meth c H locs cells slots Q (F0 m pc ls rest)) : W p l e R s m args below meth c H locs cells slots Q (F0 m pc ls (.double x :: .int i :: .null :: rest)) := by
  intro T hT X
  obtain ⟨t, st, q⟩ := k T hT X
  exact ⟨t, X.dastoreNull hexec (g := F0 m pc ls (.double x :: .int i :: .null :: rest)) rfl (rest := rest) rfl (by rw [hb]; exact hdg) t st, q⟩
theorem vx_bastoreN (hexec : p.tables.exec = Jvm.exec) (hb : c.code = cc) {x : Int32} {i : Int32} (hdg : decode cc pc = .ok (.bastore, 1)) (k : vx_NoteN p l e R s m args below meth c H locs cells slots Q (F0 m pc ls rest)) : W p l e R s m args below meth c H locs cells slots Q (F0 m pc ls (.int x :: .int i :: .null :: rest)) := by
  intro T hT X
  obtain ⟨t, st, q⟩ := k T hT X
  exact ⟨t, X.bastoreNull hexec (g := F0 m pc ls (.int x :: .int i :: .null :: rest)) rfl (rest := rest) rfl (by rw [hb]; exact hdg) t st, q⟩
theorem vx_castoreN (hexec : p.tables.exec = Jvm.exec) (hb : c.code = cc) {x : Int32} {i : Int32} (hdg : decode cc pc = .ok (.castore, 1)) (k : vx_NoteN p l e R s m args below meth c H locs cells slots Q (F0 m pc ls rest)) : W p l e R s m args below meth c H locs cells slots Q (F0 m pc ls (.int x :: .int i :: .null :: rest)) := by
  intro T hT X
  obtain ⟨t, st, q⟩ := k T hT X
  exact ⟨t, X.castoreNull hexec (g := F0 m pc ls (.int x :: .int i :: .null :: rest)) rfl (rest := rest) rfl (by rw [hb]; exact hdg) t st, q⟩
theorem vx_sastoreN (hexec : p.tables.exec = Jvm.exec) (hb : c.code = cc) {x : Int32} {i : Int32} (hdg : decode cc pc = .ok (.sastore, 1)) (k : vx_NoteN p l e R s m args below meth c H locs cells slots Q (F0 m pc ls rest)) : W p l e R s m args below meth c H locs cells slots Q (F0 m pc ls (.int x :: .int i :: .null :: rest)) := by
  intro T hT X
  obtain ⟨t, st, q⟩ := k T hT X
  exact ⟨t, X.sastoreNull hexec (g := F0 m pc ls (.int x :: .int i :: .null :: rest)) rfl (rest := rest) rfl (by rw [hb]; exact hdg) t st, q⟩
theorem vx_invokeN {own C : String} {index maxL : Nat} {y : MethodName} {bytes : ByteArray} {ret : Option FieldType} (hexec : p.tables.exec = Jvm.exec) (hb : c.code = cc) (hown : s.vm.findClass own = some m.cls) (hlink : (Cond.methodLink own index y).before args s = true) (hinst : (Cond.instanceMethod y).before args s = true) (hcode : (Cond.code y bytes maxL ret).before args s = true) (hsel : (Cond.selects C y y).before args s = true)
    (hx : y.cls ≠ "java/lang/invoke/MethodHandle" ∧ y.cls ≠ "java/lang/invoke/VarHandle") {As : List Value} (hlen : (parseMethodDescriptor y.desc).map (fun d => d.parameters.length) = some As.length) (hdg : decode cc pc = .ok (.invokevirtual index, 3))
    (k : vx_NoteN p l e R s m args below meth c H locs cells slots Q (F0 m pc ls rest)) {st0 : List Value} (hst : st0 = As.reverse ++ .null :: rest) : W p l e R s m args below meth c H locs cells slots Q (F0 m pc ls st0) := by
  intro T hT X
  obtain ⟨r0, r, hn, hrm, hstR, hsigR⟩ := va_Decl.of hinst hcode
  obtain ⟨c2, r2, m2, q1, q2, q3, q4, kP, hkP, hkPi⟩ := Cond.selects_spec hsel
  cases hn.symm.trans q3
  have hl9 : As.length = r.sig.parameters.length := by
    rw [hsigR] at hlen
    exact (Option.some.inj hlen).symm
  obtain ⟨vm', X1, st1⟩ := X.invokevirtualNull hexec hown hlink hn hrm hstR hkP hkPi hx (g := F0 m pc ls st0) rfl (argsL := As) (rest := rest) hl9 hst (by rw [hb]; exact hdg)
  obtain ⟨t, st, q⟩ := k (T.setVm vm') hT X1
  exact ⟨t, st1 t st, q⟩
theorem vx_newarrayZ {atype : ArrayType} (hexec : p.tables.exec = Jvm.exec) (hb : c.code = cc) {n : Int32} (h0 : n < 0) (hdg : decode cc pc = .ok (.newarray atype, 2)) (k : ∀ tx : String, tx = toString n → vx_Note p l e R s m args below meth c H locs cells slots Q (F0 m pc ls rest) "java/lang/NegativeArraySizeException" tx) : W p l e R s m args below meth c H locs cells slots Q (F0 m pc ls (.int n :: rest)) := by
  intro T hT X
  obtain ⟨t, st, q⟩ := k _ rfl T hT X
  exact ⟨t, X.newarrayNegative hexec (g := F0 m pc ls (.int n :: rest)) rfl h0 (rest := rest) rfl (by rw [hb]; exact hdg) t st, q⟩
end
end VXM
/-! ===== END ===== -/
end
section
-- names, fields and decode rows: printed by TURN (claim/NAMES.whole.lean.txt), those that p1 needs
def RX0 : String := "WordFoundry$Counts"
def TX0 : u_T := fun k => match k with
  | _ => ("WordFoundry$Counts", "limbs", "[I", true)
def tyX0 : Nat → FieldType := fun k => match k with
  | _ => .array .int
theorem nmX0 : ∀ a, a < 1 → ∀ b, b < 1 → a ≠ b → (TX0 a).2.1 ≠ (TX0 b).2.1 := by decide +kernel
theorem tyX0_ok : ∀ k, k < 1 → parseFieldDescriptor (TX0 k).2.2.1 = some (tyX0 k) := by decide +kernel
abbrev cX0_init : ByteArray := prog_2_method_1_code
def yX0_init : MethodName := ⟨RX0, "<init>", "()V"⟩
abbrev cX0_set : ByteArray := prog_2_method_2_code
def yX0_set : MethodName := ⟨RX0, "set", "(II)V"⟩
def RX1 : String := "WordFoundry$Dictionary"
def TX1 : u_T := fun k => match k with
  | 0 => ("WordFoundry$Dictionary", "names", "[I", true)
  | 1 => ("WordFoundry$Dictionary", "vocabularies", "[I", true)
  | 2 => ("WordFoundry$Dictionary", "kinds", "[I", true)
  | 3 => ("WordFoundry$Dictionary", "immediates", "[Z", true)
  | 4 => ("WordFoundry$Dictionary", "values", "[I", true)
  | 5 => ("WordFoundry$Dictionary", "doingEntries", "[I", true)
  | 6 => ("WordFoundry$Dictionary", "doingStarts", "[I", true)
  | 7 => ("WordFoundry$Dictionary", "opCounts", "[I", true)
  | 8 => ("WordFoundry$Dictionary", "opKinds", "[I", true)
  | 9 => ("WordFoundry$Dictionary", "opNumbers", "[I", true)
  | 10 => ("WordFoundry$Dictionary", "size", "I", false)
  | 11 => ("WordFoundry$Dictionary", "newVocabulary", "I", false)
  | _ => ("WordFoundry$Dictionary", "searchedVocabulary", "I", false)
def tyX1 : Nat → FieldType := fun k => match k with
  | 0 => .array .int
  | 1 => .array .int
  | 2 => .array .int
  | 3 => .array .boolean
  | 4 => .array .int
  | 5 => .array .int
  | 6 => .array .int
  | 7 => .array .int
  | 8 => .array .int
  | 9 => .array .int
  | 10 => .int
  | 11 => .int
  | _ => .int
theorem nmX1 : ∀ a, a < 13 → ∀ b, b < 13 → a ≠ b → (TX1 a).2.1 ≠ (TX1 b).2.1 := by decide +kernel
theorem tyX1_ok : ∀ k, k < 13 → parseFieldDescriptor (TX1 k).2.2.1 = some (tyX1 k) := by decide +kernel
abbrev cX1_init : ByteArray := prog_3_method_1_code
def yX1_init : MethodName := ⟨RX1, "<init>", "()V"⟩
abbrev cX1_has : ByteArray := prog_3_method_2_code
def yX1_has : MethodName := ⟨RX1, "has", "(I)Z"⟩
abbrev cX1_hasOp : ByteArray := prog_3_method_3_code
def yX1_hasOp : MethodName := ⟨RX1, "hasOp", "(II)Z"⟩
abbrev cX1_search : ByteArray := prog_3_method_8_code
def yX1_search : MethodName := ⟨RX1, "search", "(I)I"⟩
def RX2 : String := "WordFoundry$Draft"
def TX2 : u_T := fun k => match k with
  | 0 => ("WordFoundry$Draft", "opKinds", "[I", true)
  | 1 => ("WordFoundry$Draft", "opNumbers", "[I", true)
  | 2 => ("WordFoundry$Draft", "owners", "[I", true)
  | 3 => ("WordFoundry$Draft", "markKinds", "[I", true)
  | 4 => ("WordFoundry$Draft", "markPlaces", "[I", true)
  | 5 => ("WordFoundry$Draft", "markCounts", "[I", true)
  | 6 => ("WordFoundry$Draft", "making", "Z", false)
  | 7 => ("WordFoundry$Draft", "name", "I", false)
  | 8 => ("WordFoundry$Draft", "vocabulary", "I", false)
  | 9 => ("WordFoundry$Draft", "opCount", "I", false)
  | _ => ("WordFoundry$Draft", "markRows", "I", false)
def tyX2 : Nat → FieldType := fun k => match k with
  | 0 => .array .int
  | 1 => .array .int
  | 2 => .array .int
  | 3 => .array .int
  | 4 => .array .int
  | 5 => .array .int
  | 6 => .boolean
  | 7 => .int
  | 8 => .int
  | 9 => .int
  | _ => .int
theorem nmX2 : ∀ a, a < 11 → ∀ b, b < 11 → a ≠ b → (TX2 a).2.1 ≠ (TX2 b).2.1 := by decide +kernel
theorem tyX2_ok : ∀ k, k < 11 → parseFieldDescriptor (TX2 k).2.2.1 = some (tyX2 k) := by decide +kernel
abbrev cX2_init : ByteArray := prog_4_method_1_code
def yX2_init : MethodName := ⟨RX2, "<init>", "()V"⟩
def RX3 : String := "WordFoundry$Effects"
def TX3 : u_T := fun k => match k with
  | 0 => ("WordFoundry$Effects", "dictionary", "LWordFoundry$Dictionary;", true)
  | 1 => ("WordFoundry$Effects", "known", "[Z", true)
  | 2 => ("WordFoundry$Effects", "counts", "LWordFoundry$Counts;", true)
  | 3 => ("WordFoundry$Effects", "reached", "[Z", true)
  | 4 => ("WordFoundry$Effects", "ahead", "[I", true)
  | 5 => ("WordFoundry$Effects", "aheadCount", "I", false)
  | 6 => ("WordFoundry$Effects", "opCount", "I", false)
  | 7 => ("WordFoundry$Effects", "takes", "I", false)
  | _ => ("WordFoundry$Effects", "gives", "I", false)
def tyX3 : Nat → FieldType := fun k => match k with
  | 0 => .object "WordFoundry$Dictionary"
  | 1 => .array .boolean
  | 2 => .object "WordFoundry$Counts"
  | 3 => .array .boolean
  | 4 => .array .int
  | 5 => .int
  | 6 => .int
  | 7 => .int
  | _ => .int
theorem nmX3 : ∀ a, a < 9 → ∀ b, b < 9 → a ≠ b → (TX3 a).2.1 ≠ (TX3 b).2.1 := by decide +kernel
theorem tyX3_ok : ∀ k, k < 9 → parseFieldDescriptor (TX3 k).2.2.1 = some (tyX3 k) := by decide +kernel
abbrev cX3_init : ByteArray := prog_5_method_1_code
def yX3_init : MethodName := ⟨RX3, "<init>", "(LWordFoundry$Dictionary;)V"⟩
abbrev cX3_measureThrough : ByteArray := prog_5_method_4_code
def yX3_measureThrough : MethodName := ⟨RX3, "measureThrough", "(I)V"⟩
def RX4 : String := "WordFoundry$FrameRunner"
def TX4 : u_T := fun k => match k with
  | 0 => ("WordFoundry$FrameRunner", "machine", "LWordFoundry$Machine;", true)
  | 1 => ("WordFoundry$FrameRunner", "codes", "[I", true)
  | 2 => ("WordFoundry$FrameRunner", "places", "[I", true)
  | _ => ("WordFoundry$FrameRunner", "waiting", "[Z", true)
def tyX4 : Nat → FieldType := fun k => match k with
  | 0 => .object "WordFoundry$Machine"
  | 1 => .array .int
  | 2 => .array .int
  | _ => .array .boolean
theorem nmX4 : ∀ a, a < 4 → ∀ b, b < 4 → a ≠ b → (TX4 a).2.1 ≠ (TX4 b).2.1 := by decide +kernel
theorem tyX4_ok : ∀ k, k < 4 → parseFieldDescriptor (TX4 k).2.2.1 = some (tyX4 k) := by decide +kernel
abbrev cX4_init : ByteArray := prog_6_method_1_code
def yX4_init : MethodName := ⟨RX4, "<init>", "(LWordFoundry$Machine;)V"⟩
def RX5 : String := "WordFoundry$Line"
def TX5 : u_T := fun k => match k with
  | 0 => ("WordFoundry$Line", "sorts", "[I", true)
  | 1 => ("WordFoundry$Line", "values", "[I", true)
  | 2 => ("WordFoundry$Line", "length", "I", false)
  | _ => ("WordFoundry$Line", "place", "I", false)
def tyX5 : Nat → FieldType := fun k => match k with
  | 0 => .array .int
  | 1 => .array .int
  | 2 => .int
  | _ => .int
theorem nmX5 : ∀ a, a < 4 → ∀ b, b < 4 → a ≠ b → (TX5 a).2.1 ≠ (TX5 b).2.1 := by decide +kernel
theorem tyX5_ok : ∀ k, k < 4 → parseFieldDescriptor (TX5 k).2.2.1 = some (tyX5 k) := by decide +kernel
abbrev cX5_init : ByteArray := prog_7_method_1_code
def yX5_init : MethodName := ⟨RX5, "<init>", "()V"⟩
abbrev cX5_isFull : ByteArray := prog_7_method_2_code
def yX5_isFull : MethodName := ⟨RX5, "isFull", "()Z"⟩
abbrev cX5_add : ByteArray := prog_7_method_3_code
def yX5_add : MethodName := ⟨RX5, "add", "(II)I"⟩
abbrev cX5_hasMore : ByteArray := prog_7_method_4_code
def yX5_hasMore : MethodName := ⟨RX5, "hasMore", "()Z"⟩
abbrev cX5_clear : ByteArray := prog_7_method_8_code
def yX5_clear : MethodName := ⟨RX5, "clear", "()V"⟩
def RX6 : String := "WordFoundry$Machine"
def TX6 : u_T := fun k => match k with
  | 0 => ("WordFoundry$Machine", "first", "LWordFoundry$Stack;", true)
  | 1 => ("WordFoundry$Machine", "second", "LWordFoundry$Stack;", true)
  | 2 => ("WordFoundry$Machine", "cells", "[I", true)
  | 3 => ("WordFoundry$Machine", "printed", "LWordFoundry$Printed;", true)
  | 4 => ("WordFoundry$Machine", "dictionary", "LWordFoundry$Dictionary;", true)
  | 5 => ("WordFoundry$Machine", "draft", "LWordFoundry$Draft;", true)
  | 6 => ("WordFoundry$Machine", "line", "LWordFoundry$Line;", true)
  | 7 => ("WordFoundry$Machine", "running", "[I", true)
  | 8 => ("WordFoundry$Machine", "bases", "[I", true)
  | 9 => ("WordFoundry$Machine", "mostSteps", "I", true)
  | 10 => ("WordFoundry$Machine", "used", "I", false)
  | 11 => ("WordFoundry$Machine", "level", "I", false)
  | 12 => ("WordFoundry$Machine", "stepCount", "I", false)
  | 13 => ("WordFoundry$Machine", "exhausted", "Z", false)
  | 14 => ("WordFoundry$Machine", "compiling", "Z", false)
  | _ => ("WordFoundry$Machine", "target", "I", false)
def tyX6 : Nat → FieldType := fun k => match k with
  | 0 => .object "WordFoundry$Stack"
  | 1 => .object "WordFoundry$Stack"
  | 2 => .array .int
  | 3 => .object "WordFoundry$Printed"
  | 4 => .object "WordFoundry$Dictionary"
  | 5 => .object "WordFoundry$Draft"
  | 6 => .object "WordFoundry$Line"
  | 7 => .array .int
  | 8 => .array .int
  | 9 => .int
  | 10 => .int
  | 11 => .int
  | 12 => .int
  | 13 => .boolean
  | 14 => .boolean
  | _ => .int
theorem nmX6 : ∀ a, a < 16 → ∀ b, b < 16 → a ≠ b → (TX6 a).2.1 ≠ (TX6 b).2.1 := by decide +kernel
theorem tyX6_ok : ∀ k, k < 16 → parseFieldDescriptor (TX6 k).2.2.1 = some (tyX6 k) := by decide +kernel
abbrev cX6_init : ByteArray := prog_8_method_1_code
def yX6_init : MethodName := ⟨RX6, "<init>", "(I)V"⟩
def RX7 : String := "WordFoundry$Printed"
def TX7 : u_T := fun k => match k with
  | 0 => ("WordFoundry$Printed", "numbers", "[I", false)
  | _ => ("WordFoundry$Printed", "count", "I", false)
def tyX7 : Nat → FieldType := fun k => match k with
  | 0 => .array .int
  | _ => .int
theorem nmX7 : ∀ a, a < 2 → ∀ b, b < 2 → a ≠ b → (TX7 a).2.1 ≠ (TX7 b).2.1 := by decide +kernel
theorem tyX7_ok : ∀ k, k < 2 → parseFieldDescriptor (TX7 k).2.2.1 = some (tyX7 k) := by decide +kernel
abbrev cX7_init : ByteArray := prog_9_method_1_code
def yX7_init : MethodName := ⟨RX7, "<init>", "()V"⟩
def RX8 : String := "WordFoundry$RecursiveRunner"
def TX8 : u_T := fun k => match k with
  | _ => ("WordFoundry$RecursiveRunner", "machine", "LWordFoundry$Machine;", true)
def tyX8 : Nat → FieldType := fun k => match k with
  | _ => .object "WordFoundry$Machine"
theorem nmX8 : ∀ a, a < 1 → ∀ b, b < 1 → a ≠ b → (TX8 a).2.1 ≠ (TX8 b).2.1 := by decide +kernel
theorem tyX8_ok : ∀ k, k < 1 → parseFieldDescriptor (TX8 k).2.2.1 = some (tyX8 k) := by decide +kernel
abbrev cX8_init : ByteArray := prog_10_method_1_code
def yX8_init : MethodName := ⟨RX8, "<init>", "(LWordFoundry$Machine;)V"⟩
def RX9 : String := "WordFoundry$SoundCheck"
def TX9 : u_T := fun k => match k with
  | 0 => ("WordFoundry$SoundCheck", "framed", "LWordFoundry$Machine;", true)
  | 1 => ("WordFoundry$SoundCheck", "frames", "LWordFoundry$FrameRunner;", true)
  | 2 => ("WordFoundry$SoundCheck", "recursed", "LWordFoundry$Machine;", true)
  | _ => ("WordFoundry$SoundCheck", "recursion", "LWordFoundry$RecursiveRunner;", true)
def tyX9 : Nat → FieldType := fun k => match k with
  | 0 => .object "WordFoundry$Machine"
  | 1 => .object "WordFoundry$FrameRunner"
  | 2 => .object "WordFoundry$Machine"
  | _ => .object "WordFoundry$RecursiveRunner"
theorem nmX9 : ∀ a, a < 4 → ∀ b, b < 4 → a ≠ b → (TX9 a).2.1 ≠ (TX9 b).2.1 := by decide +kernel
theorem tyX9_ok : ∀ k, k < 4 → parseFieldDescriptor (TX9 k).2.2.1 = some (tyX9 k) := by decide +kernel
abbrev cX9_init : ByteArray := prog_11_method_1_code
def yX9_init : MethodName := ⟨RX9, "<init>", "()V"⟩
def RX10 : String := "WordFoundry$Stack"
def TX10 : u_T := fun k => match k with
  | 0 => ("WordFoundry$Stack", "numbers", "[I", true)
  | 1 => ("WordFoundry$Stack", "kept", "[I", true)
  | 2 => ("WordFoundry$Stack", "keptSizes", "[I", true)
  | _ => ("WordFoundry$Stack", "size", "I", false)
def tyX10 : Nat → FieldType := fun k => match k with
  | 0 => .array .int
  | 1 => .array .int
  | 2 => .array .int
  | _ => .int
theorem nmX10 : ∀ a, a < 4 → ∀ b, b < 4 → a ≠ b → (TX10 a).2.1 ≠ (TX10 b).2.1 := by decide +kernel
theorem tyX10_ok : ∀ k, k < 4 → parseFieldDescriptor (TX10 k).2.2.1 = some (tyX10 k) := by decide +kernel
abbrev cX10_init : ByteArray := prog_12_method_1_code
def yX10_init : MethodName := ⟨RX10, "<init>", "()V"⟩
def RX11 : String := "WordFoundry"
def TX11 : u_T := fun k => match k with
  | 0 => ("WordFoundry", "machine", "LWordFoundry$Machine;", true)
  | 1 => ("WordFoundry", "runner", "LWordFoundry$FrameRunner;", true)
  | 2 => ("WordFoundry", "effects", "LWordFoundry$Effects;", true)
  | 3 => ("WordFoundry", "check", "LWordFoundry$SoundCheck;", true)
  | 4 => ("WordFoundry", "trail", "[I", true)
  | 5 => ("WordFoundry", "trailLength", "I", false)
  | 6 => ("WordFoundry", "failure", "I", false)
  | 7 => ("WordFoundry", "lineCount", "I", false)
  | 8 => ("WordFoundry", "failureCount", "I", false)
  | _ => ("WordFoundry", "stepTotal", "J", false)
def tyX11 : Nat → FieldType := fun k => match k with
  | 0 => .object "WordFoundry$Machine"
  | 1 => .object "WordFoundry$FrameRunner"
  | 2 => .object "WordFoundry$Effects"
  | 3 => .object "WordFoundry$SoundCheck"
  | 4 => .array .int
  | 5 => .int
  | 6 => .int
  | 7 => .int
  | 8 => .int
  | _ => .long
theorem nmX11 : ∀ a, a < 10 → ∀ b, b < 10 → a ≠ b → (TX11 a).2.1 ≠ (TX11 b).2.1 := by decide +kernel
theorem tyX11_ok : ∀ k, k < 10 → parseFieldDescriptor (TX11 k).2.2.1 = some (tyX11 k) := by decide +kernel
abbrev cX11_init : ByteArray := prog_1_method_1_code
def yX11_init : MethodName := ⟨RX11, "<init>", "()V"⟩
abbrev cX11_word : ByteArray := prog_1_method_2_code
def yX11_word : MethodName := ⟨RX11, "word", "(C)I"⟩
abbrev cX11_name : ByteArray := prog_1_method_3_code
def yX11_name : MethodName := ⟨RX11, "name", "(I)I"⟩
abbrev cX11_number : ByteArray := prog_1_method_4_code
def yX11_number : MethodName := ⟨RX11, "number", "(I)I"⟩
abbrev cX11_enter : ByteArray := prog_1_method_5_code
def yX11_enter : MethodName := ⟨RX11, "enter", "()C"⟩
abbrev cX11_error : ByteArray := prog_1_method_7_code
def yX11_error : MethodName := ⟨RX11, "error", "()I"⟩
abbrev cX11_trace : ByteArray := prog_1_method_8_code
def yX11_trace : MethodName := ⟨RX11, "trace", "()I"⟩
abbrev cX11_traceAt : ByteArray := prog_1_method_9_code
def yX11_traceAt : MethodName := ⟨RX11, "traceAt", "(I)I"⟩
abbrev cX11_depth : ByteArray := prog_1_method_10_code
def yX11_depth : MethodName := ⟨RX11, "depth", "()I"⟩
abbrev cX11_at : ByteArray := prog_1_method_11_code
def yX11_at : MethodName := ⟨RX11, "at", "(I)I"⟩
abbrev cX11_second : ByteArray := prog_1_method_12_code
def yX11_second : MethodName := ⟨RX11, "second", "()I"⟩
abbrev cX11_here : ByteArray := prog_1_method_13_code
def yX11_here : MethodName := ⟨RX11, "here", "()I"⟩
abbrev cX11_cell : ByteArray := prog_1_method_14_code
def yX11_cell : MethodName := ⟨RX11, "cell", "(I)I"⟩
abbrev cX11_outs : ByteArray := prog_1_method_15_code
def yX11_outs : MethodName := ⟨RX11, "outs", "()I"⟩
abbrev cX11_outAt : ByteArray := prog_1_method_16_code
def yX11_outAt : MethodName := ⟨RX11, "outAt", "(I)I"⟩
abbrev cX11_entries : ByteArray := prog_1_method_17_code
def yX11_entries : MethodName := ⟨RX11, "entries", "()I"⟩
abbrev cX11_nameOf : ByteArray := prog_1_method_18_code
def yX11_nameOf : MethodName := ⟨RX11, "nameOf", "(I)I"⟩
abbrev cX11_kindOf : ByteArray := prog_1_method_19_code
def yX11_kindOf : MethodName := ⟨RX11, "kindOf", "(I)C"⟩
abbrev cX11_isImmediate : ByteArray := prog_1_method_20_code
def yX11_isImmediate : MethodName := ⟨RX11, "isImmediate", "(I)Z"⟩
abbrev cX11_vocabularyOf : ByteArray := prog_1_method_21_code
def yX11_vocabularyOf : MethodName := ⟨RX11, "vocabularyOf", "(I)I"⟩
abbrev cX11_find : ByteArray := prog_1_method_22_code
def yX11_find : MethodName := ⟨RX11, "find", "(I)I"⟩
abbrev cX11_ops : ByteArray := prog_1_method_23_code
def yX11_ops : MethodName := ⟨RX11, "ops", "(I)I"⟩
abbrev cX11_opAt : ByteArray := prog_1_method_24_code
def yX11_opAt : MethodName := ⟨RX11, "opAt", "(II)C"⟩
abbrev cX11_opNumber : ByteArray := prog_1_method_25_code
def yX11_opNumber : MethodName := ⟨RX11, "opNumber", "(II)I"⟩
abbrev cX11_effect : ByteArray := prog_1_method_26_code
def yX11_effect : MethodName := ⟨RX11, "effect", "(I)I"⟩
abbrev cX11_isMaking : ByteArray := prog_1_method_27_code
def yX11_isMaking : MethodName := ⟨RX11, "isMaking", "()Z"⟩
abbrev cX11_steps : ByteArray := prog_1_method_28_code
def yX11_steps : MethodName := ⟨RX11, "steps", "()J"⟩
abbrev cX11_lines : ByteArray := prog_1_method_29_code
def yX11_lines : MethodName := ⟨RX11, "lines", "()I"⟩
abbrev cX11_errorShare : ByteArray := prog_1_method_30_code
def yX11_errorShare : MethodName := ⟨RX11, "errorShare", "()F"⟩
abbrev cX11_meanSteps : ByteArray := prog_1_method_31_code
def yX11_meanSteps : MethodName := ⟨RX11, "meanSteps", "()D"⟩
abbrev cX11_isSound : ByteArray := prog_1_method_32_code
def yX11_isSound : MethodName := ⟨RX11, "isSound", "()Z"⟩
def RX12 : String := "WordFoundryModel$Entry"
def RX13 : String := "WordFoundryModel$Mark"
def RX14 : String := "WordFoundryModel$Op"
def TX14 : u_T := fun k => match k with
  | 0 => ("WordFoundryModel$Op", "kind", "C", true)
  | _ => ("WordFoundryModel$Op", "number", "I", false)
def tyX14 : Nat → FieldType := fun k => match k with
  | 0 => .char
  | _ => .int
theorem nmX14 : ∀ a, a < 2 → ∀ b, b < 2 → a ≠ b → (TX14 a).2.1 ≠ (TX14 b).2.1 := by decide +kernel
theorem tyX14_ok : ∀ k, k < 2 → parseFieldDescriptor (TX14 k).2.2.1 = some (tyX14 k) := by decide +kernel
abbrev cX14_init : ByteArray := prog_17_method_1_code
def yX14_init : MethodName := ⟨RX14, "<init>", "(CI)V"⟩
def RX15 : String := "WordFoundryModel$Stopped"
def RX16 : String := "WordFoundryModel$Thrown"
def RX17 : String := "WordFoundryModel"
def TX17 : u_T := fun k => match k with
  | 0 => ("WordFoundryModel", "line", "Ljava/util/ArrayList;", true)
  | 1 => ("WordFoundryModel", "entries", "Ljava/util/ArrayList;", true)
  | 2 => ("WordFoundryModel", "stack", "Ljava/util/ArrayList;", true)
  | 3 => ("WordFoundryModel", "second", "Ljava/util/ArrayList;", true)
  | 4 => ("WordFoundryModel", "outs", "Ljava/util/ArrayList;", true)
  | 5 => ("WordFoundryModel", "running", "Ljava/util/ArrayList;", true)
  | 6 => ("WordFoundryModel", "parts", "Ljava/util/ArrayList;", true)
  | 7 => ("WordFoundryModel", "trace", "Ljava/util/ArrayList;", true)
  | 8 => ("WordFoundryModel", "marks", "Ljava/util/ArrayList;", true)
  | 9 => ("WordFoundryModel", "cells", "[I", true)
  | 10 => ("WordFoundryModel", "making", "LWordFoundryModel$Entry;", false)
  | 11 => ("WordFoundryModel", "isCompiling", "Z", false)
  | 12 => ("WordFoundryModel", "hasError", "Z", false)
  | 13 => ("WordFoundryModel", "thrown", "I", false)
  | 14 => ("WordFoundryModel", "here", "I", false)
  | 15 => ("WordFoundryModel", "vocabulary", "I", false)
  | 16 => ("WordFoundryModel", "searched", "I", false)
  | 17 => ("WordFoundryModel", "at", "I", false)
  | 18 => ("WordFoundryModel", "base", "I", false)
  | 19 => ("WordFoundryModel", "spent", "I", false)
  | 20 => ("WordFoundryModel", "lines", "I", false)
  | 21 => ("WordFoundryModel", "errors", "I", false)
  | 22 => ("WordFoundryModel", "error", "I", false)
  | 23 => ("WordFoundryModel", "steps", "J", false)
  | 24 => ("WordFoundryModel", "needs", "[I", true)
  | 25 => ("WordFoundryModel", "there", "[I", true)
  | 26 => ("WordFoundryModel", "heights", "[I", true)
  | 27 => ("WordFoundryModel", "hasEffect", "[Z", true)
  | 28 => ("WordFoundryModel", "isReached", "[Z", true)
  | 29 => ("WordFoundryModel", "taken", "I", false)
  | _ => ("WordFoundryModel", "given", "I", false)
def tyX17 : Nat → FieldType := fun k => match k with
  | 0 => .object "java/util/ArrayList"
  | 1 => .object "java/util/ArrayList"
  | 2 => .object "java/util/ArrayList"
  | 3 => .object "java/util/ArrayList"
  | 4 => .object "java/util/ArrayList"
  | 5 => .object "java/util/ArrayList"
  | 6 => .object "java/util/ArrayList"
  | 7 => .object "java/util/ArrayList"
  | 8 => .object "java/util/ArrayList"
  | 9 => .array .int
  | 10 => .object "WordFoundryModel$Entry"
  | 11 => .boolean
  | 12 => .boolean
  | 13 => .int
  | 14 => .int
  | 15 => .int
  | 16 => .int
  | 17 => .int
  | 18 => .int
  | 19 => .int
  | 20 => .int
  | 21 => .int
  | 22 => .int
  | 23 => .long
  | 24 => .array .int
  | 25 => .array .int
  | 26 => .array .int
  | 27 => .array .boolean
  | 28 => .array .boolean
  | 29 => .int
  | _ => .int
theorem nmX17 : ∀ a, a < 31 → ∀ b, b < 31 → a ≠ b → (TX17 a).2.1 ≠ (TX17 b).2.1 := by decide +kernel
theorem tyX17_ok : ∀ k, k < 31 → parseFieldDescriptor (TX17 k).2.2.1 = some (tyX17 k) := by decide +kernel
abbrev cX17_init : ByteArray := prog_14_method_1_code
def yX17_init : MethodName := ⟨RX17, "<init>", "()V"⟩
abbrev cX17_thrown : ByteArray := prog_14_method_2_code
def yX17_thrown : MethodName := ⟨RX17, "thrown", "()I"⟩
abbrev cX17_fails : ByteArray := prog_14_method_3_code
def yX17_fails : MethodName := ⟨RX17, "fails", "(I)I"⟩
abbrev cX17_tell : ByteArray := prog_14_method_4_code
def yX17_tell : MethodName := ⟨RX17, "tell", "(I)I"⟩
abbrev cX17_in : ByteArray := prog_14_method_5_code
def yX17_in : MethodName := ⟨RX17, "in", "(III)Z"⟩
abbrev cX17_foundIn : ByteArray := prog_14_method_13_code
def yX17_foundIn : MethodName := ⟨RX17, "foundIn", "(II)I"⟩
abbrev cX17_found : ByteArray := prog_14_method_14_code
def yX17_found : MethodName := ⟨RX17, "found", "(I)I"⟩
abbrev cX17_puts : ByteArray := prog_14_method_44_code
def yX17_puts : MethodName := ⟨RX17, "puts", "(CI)I"⟩
abbrev cX17_word : ByteArray := prog_14_method_45_code
def yX17_word : MethodName := ⟨RX17, "word", "(C)I"⟩
abbrev cX17_name : ByteArray := prog_14_method_46_code
def yX17_name : MethodName := ⟨RX17, "name", "(I)I"⟩
abbrev cX17_number : ByteArray := prog_14_method_47_code
def yX17_number : MethodName := ⟨RX17, "number", "(I)I"⟩
abbrev cX17_enter : ByteArray := prog_14_method_50_code
def yX17_enter : MethodName := ⟨RX17, "enter", "()C"⟩
abbrev cX17_error_ : ByteArray := prog_14_method_51_code
def yX17_error_ : MethodName := ⟨RX17, "error", "()I"⟩
abbrev cX17_trace : ByteArray := prog_14_method_52_code
def yX17_trace : MethodName := ⟨RX17, "trace", "()I"⟩
abbrev cX17_traceAt : ByteArray := prog_14_method_53_code
def yX17_traceAt : MethodName := ⟨RX17, "traceAt", "(I)I"⟩
abbrev cX17_depth : ByteArray := prog_14_method_54_code
def yX17_depth : MethodName := ⟨RX17, "depth", "()I"⟩
abbrev cX17_at : ByteArray := prog_14_method_55_code
def yX17_at : MethodName := ⟨RX17, "at", "(I)I"⟩
abbrev cX17_second : ByteArray := prog_14_method_56_code
def yX17_second : MethodName := ⟨RX17, "second", "()I"⟩
abbrev cX17_here : ByteArray := prog_14_method_57_code
def yX17_here : MethodName := ⟨RX17, "here", "()I"⟩
abbrev cX17_cell : ByteArray := prog_14_method_58_code
def yX17_cell : MethodName := ⟨RX17, "cell", "(I)I"⟩
abbrev cX17_outs : ByteArray := prog_14_method_59_code
def yX17_outs : MethodName := ⟨RX17, "outs", "()I"⟩
abbrev cX17_outAt : ByteArray := prog_14_method_60_code
def yX17_outAt : MethodName := ⟨RX17, "outAt", "(I)I"⟩
abbrev cX17_entries : ByteArray := prog_14_method_61_code
def yX17_entries : MethodName := ⟨RX17, "entries", "()I"⟩
abbrev cX17_isEntry : ByteArray := prog_14_method_62_code
def yX17_isEntry : MethodName := ⟨RX17, "isEntry", "(I)Z"⟩
abbrev cX17_nameOf : ByteArray := prog_14_method_63_code
def yX17_nameOf : MethodName := ⟨RX17, "nameOf", "(I)I"⟩
abbrev cX17_kindOf : ByteArray := prog_14_method_64_code
def yX17_kindOf : MethodName := ⟨RX17, "kindOf", "(I)C"⟩
abbrev cX17_isImmediate : ByteArray := prog_14_method_65_code
def yX17_isImmediate : MethodName := ⟨RX17, "isImmediate", "(I)Z"⟩
abbrev cX17_vocabularyOf : ByteArray := prog_14_method_66_code
def yX17_vocabularyOf : MethodName := ⟨RX17, "vocabularyOf", "(I)I"⟩
abbrev cX17_find : ByteArray := prog_14_method_67_code
def yX17_find : MethodName := ⟨RX17, "find", "(I)I"⟩
abbrev cX17_ops : ByteArray := prog_14_method_68_code
def yX17_ops : MethodName := ⟨RX17, "ops", "(I)I"⟩
abbrev cX17_isOp : ByteArray := prog_14_method_69_code
def yX17_isOp : MethodName := ⟨RX17, "isOp", "(II)Z"⟩
abbrev cX17_opAt : ByteArray := prog_14_method_70_code
def yX17_opAt : MethodName := ⟨RX17, "opAt", "(II)C"⟩
abbrev cX17_opNumber : ByteArray := prog_14_method_71_code
def yX17_opNumber : MethodName := ⟨RX17, "opNumber", "(II)I"⟩
abbrev cX17_effect : ByteArray := prog_14_method_77_code
def yX17_effect : MethodName := ⟨RX17, "effect", "(I)I"⟩
abbrev cX17_isMaking : ByteArray := prog_14_method_78_code
def yX17_isMaking : MethodName := ⟨RX17, "isMaking", "()Z"⟩
abbrev cX17_steps : ByteArray := prog_14_method_79_code
def yX17_steps : MethodName := ⟨RX17, "steps", "()J"⟩
abbrev cX17_lines : ByteArray := prog_14_method_80_code
def yX17_lines : MethodName := ⟨RX17, "lines", "()I"⟩
abbrev cX17_errorShare : ByteArray := prog_14_method_81_code
def yX17_errorShare : MethodName := ⟨RX17, "errorShare", "()F"⟩
abbrev cX17_meanSteps : ByteArray := prog_14_method_82_code
def yX17_meanSteps : MethodName := ⟨RX17, "meanSteps", "()D"⟩
abbrev cX17_isSound : ByteArray := prog_14_method_83_code
def yX17_isSound : MethodName := ⟨RX17, "isSound", "()Z"⟩
def RJx145de : String := "java/io/Serializable"
def RJ5 : String := "java/lang/AbstractStringBuilder"
def RJx2cfe8 : String := "java/lang/Appendable"
def RJx00060 : String := "java/lang/ArrayIndexOutOfBoundsException"
def RJx9f9b0 : String := "java/lang/CharSequence"
def RJ11 : String := "java/lang/Character"
def RJx8e188 : String := "java/lang/Cloneable"
def RJxb160c : String := "java/lang/Comparable"
def RJxabbfe : String := "java/lang/Integer$IntegerCache"
def RJ6 : String := "java/lang/Integer"
def RJxab1ab : String := "java/lang/Iterable"
def RJ9 : String := "java/lang/Math"
def RJxd2413 : String := "java/lang/Number"
def RJ0 : String := "java/lang/String"
abbrev cJ0_length_8abf5 : ByteArray := prog_39_method_54_code
def yJ0_length_8abf5 : MethodName := ⟨RJ0, "length", "()I"⟩
abbrev cJ0_indexOf_0f7a4 : ByteArray := prog_39_method_79_code
def yJ0_indexOf_0f7a4 : MethodName := ⟨RJ0, "indexOf", "(I)I"⟩
abbrev cJ0_indexOf_7cf53 : ByteArray := prog_39_method_80_code
def yJ0_indexOf_7cf53 : MethodName := ⟨RJ0, "indexOf", "(II)I"⟩
abbrev cJ0_coder_7d493 : ByteArray := prog_39_method_152_code
def yJ0_coder_7d493 : MethodName := ⟨RJ0, "coder", "()B"⟩
abbrev cJ0_isLatin1_aae02 : ByteArray := prog_39_method_154_code
def yJ0_isLatin1_aae02 : MethodName := ⟨RJ0, "isLatin1", "()Z"⟩
def RJ4 : String := "java/lang/StringBuilder"
def RJ1 : String := "java/lang/StringLatin1"
abbrev cJ1_canEncode_9a6ad : ByteArray := prog_41_method_4_code
def yJ1_canEncode_9a6ad : MethodName := ⟨RJ1, "canEncode", "(I)Z"⟩
abbrev cJ1_indexOf_4cfef : ByteArray := prog_41_method_22_code
def yJ1_indexOf_4cfef : MethodName := ⟨RJ1, "indexOf", "([BIII)I"⟩
abbrev cJ1_indexOfChar_4cfef : ByteArray := prog_41_method_23_code
def yJ1_indexOfChar_4cfef : MethodName := ⟨RJ1, "indexOfChar", "([BIII)I"⟩
def RJ2 : String := "java/lang/StringUTF16"
def RJ10 : String := "java/lang/System"
def RJxfd54e : String := "java/lang/constant/Constable"
def RJx3cf43 : String := "java/lang/constant/ConstantDesc"
def RJxa1e45 : String := "java/util/AbstractCollection"
abbrev cJxa1e45_init_da8c8 : ByteArray := prog_48_method_1_code
def yJxa1e45_init_da8c8 : MethodName := ⟨RJxa1e45, "<init>", "()V"⟩
def RJxc12de : String := "java/util/AbstractList"
abbrev cJxc12de_init_da8c8 : ByteArray := prog_49_method_1_code
def yJxc12de_init_da8c8 : MethodName := ⟨RJxc12de, "<init>", "()V"⟩
def RJx35411 : String := "java/util/ArrayList$Itr"
def RJx4a65c : String := "java/util/ArrayList"
def TJx4a65c : u_T := fun k => match k with
  | 0 => ("java/util/AbstractList", "modCount", "I", false)
  | 1 => ("java/util/ArrayList", "elementData", "[Ljava/lang/Object;", false)
  | _ => ("java/util/ArrayList", "size", "I", false)
def tyJx4a65c : Nat → FieldType := fun k => match k with
  | 0 => .int
  | 1 => .array (.object "java/lang/Object")
  | _ => .int
theorem nmJx4a65c : ∀ a, a < 3 → ∀ b, b < 3 → a ≠ b → (TJx4a65c a).2.1 ≠ (TJx4a65c b).2.1 := by decide +kernel
theorem tyJx4a65c_ok : ∀ k, k < 3 → parseFieldDescriptor (TJx4a65c k).2.2.1 = some (tyJx4a65c k) := by decide +kernel
abbrev cJx4a65c_init_da8c8 : ByteArray := prog_50_method_2_code
def yJx4a65c_init_da8c8 : MethodName := ⟨RJx4a65c, "<init>", "()V"⟩
abbrev cJx4a65c_grow_92f84 : ByteArray := prog_50_method_6_code
def yJx4a65c_grow_92f84 : MethodName := ⟨RJx4a65c, "grow", "(I)[Ljava/lang/Object;"⟩
abbrev cJx4a65c_grow_d5877 : ByteArray := prog_50_method_7_code
def yJx4a65c_grow_d5877 : MethodName := ⟨RJx4a65c, "grow", "()[Ljava/lang/Object;"⟩
abbrev cJx4a65c_size_8abf5 : ByteArray := prog_50_method_8_code
def yJx4a65c_size_8abf5 : MethodName := ⟨RJx4a65c, "size", "()I"⟩
abbrev cJx4a65c_add_72be8 : ByteArray := prog_50_method_24_code
def yJx4a65c_add_72be8 : MethodName := ⟨RJx4a65c, "add", "(Ljava/lang/Object;[Ljava/lang/Object;I)V"⟩
abbrev cJx4a65c_add_9ea2d : ByteArray := prog_50_method_25_code
def yJx4a65c_add_9ea2d : MethodName := ⟨RJx4a65c, "add", "(Ljava/lang/Object;)Z"⟩
abbrev cJx4a65c_clear_da8c8 : ByteArray := prog_50_method_40_code
def yJx4a65c_clear_da8c8 : MethodName := ⟨RJx4a65c, "clear", "()V"⟩
def RJ7 : String := "java/util/Arrays"
def RJx5ef63 : String := "java/util/Collection"
def RJx4d0d8 : String := "java/util/Iterator"
def RJxbd725 : String := "java/util/List"
def RJ15 : String := "java/util/Objects"
def RJxf0a74 : String := "java/util/RandomAccess"
def RJxa66e6 : String := "java/util/SequencedCollection"
def RJ8 : String := "jdk/internal/util/ArraysSupport"
def RJ3 : String := "jdk/internal/util/Preconditions"
def RL : String := "WordFoundryLaw"
abbrev cL_word : ByteArray := method_3_code
def yL_word : MethodName := ⟨RL, "word", "(LWordFoundry;C[J)I"⟩
abbrev cL_name : ByteArray := method_4_code
def yL_name : MethodName := ⟨RL, "name", "(LWordFoundry;I[J)I"⟩
abbrev cL_number : ByteArray := method_5_code
def yL_number : MethodName := ⟨RL, "number", "(LWordFoundry;I[J)I"⟩
abbrev cL_error : ByteArray := method_6_code
def yL_error : MethodName := ⟨RL, "error", "(LWordFoundry;[J)I"⟩
abbrev cL_traceAt : ByteArray := method_7_code
def yL_traceAt : MethodName := ⟨RL, "traceAt", "(LWordFoundry;I[J)I"⟩
abbrev cL_at : ByteArray := method_8_code
def yL_at : MethodName := ⟨RL, "at", "(LWordFoundry;I[J)I"⟩
abbrev cL_cell : ByteArray := method_9_code
def yL_cell : MethodName := ⟨RL, "cell", "(LWordFoundry;I[J)I"⟩
abbrev cL_outAt : ByteArray := method_10_code
def yL_outAt : MethodName := ⟨RL, "outAt", "(LWordFoundry;I[J)I"⟩
abbrev cL_nameOf : ByteArray := method_11_code
def yL_nameOf : MethodName := ⟨RL, "nameOf", "(LWordFoundry;I[J)I"⟩
abbrev cL_kindOf : ByteArray := method_12_code
def yL_kindOf : MethodName := ⟨RL, "kindOf", "(LWordFoundry;I[J)I"⟩
abbrev cL_isImmediate : ByteArray := method_13_code
def yL_isImmediate : MethodName := ⟨RL, "isImmediate", "(LWordFoundry;I[J)I"⟩
abbrev cL_vocabularyOf : ByteArray := method_14_code
def yL_vocabularyOf : MethodName := ⟨RL, "vocabularyOf", "(LWordFoundry;I[J)I"⟩
abbrev cL_find : ByteArray := method_15_code
def yL_find : MethodName := ⟨RL, "find", "(LWordFoundry;I[J)I"⟩
abbrev cL_ops : ByteArray := method_16_code
def yL_ops : MethodName := ⟨RL, "ops", "(LWordFoundry;I[J)I"⟩
abbrev cL_opAt : ByteArray := method_17_code
def yL_opAt : MethodName := ⟨RL, "opAt", "(LWordFoundry;II[J)I"⟩
abbrev cL_opNumber : ByteArray := method_18_code
def yL_opNumber : MethodName := ⟨RL, "opNumber", "(LWordFoundry;II[J)I"⟩
abbrev cL_effect : ByteArray := method_19_code
def yL_effect : MethodName := ⟨RL, "effect", "(LWordFoundry;I[J)I"⟩
abbrev cL_errorShare : ByteArray := method_20_code
def yL_errorShare : MethodName := ⟨RL, "errorShare", "(LWordFoundry;[D)I"⟩
abbrev cL_meanSteps : ByteArray := method_21_code
def yL_meanSteps : MethodName := ⟨RL, "meanSteps", "(LWordFoundry;[D)I"⟩
abbrev cL_law : ByteArray := code
def yL_law : MethodName := ⟨RL, "law", "([I)Z"⟩
theorem dX0_init_0 : decode cX0_init 0 = .ok (.aload_n 0, 1) := by decide +kernel
theorem dX0_init_1 : decode cX0_init 1 = .ok (.invokespecial 1, 3) := by decide +kernel
theorem dX0_init_4 : decode cX0_init 4 = .ok (.aload_n 0, 1) := by decide +kernel
theorem dX0_init_5 : decode cX0_init 5 = .ok (.sipush 864, 3) := by decide +kernel
theorem dX0_init_8 : decode cX0_init 8 = .ok (.newarray .int, 2) := by decide +kernel
theorem dX0_init_10 : decode cX0_init 10 = .ok (.putfield 11, 3) := by decide +kernel
theorem dX0_init_13 : decode cX0_init 13 = .ok (.return_, 1) := by decide +kernel
theorem dX0_set_0 : decode cX0_set 0 = .ok (.aload_n 0, 1) := by decide +kernel
theorem dX0_set_1 : decode cX0_set 1 = .ok (.getfield 11, 3) := by decide +kernel
theorem dX0_set_4 : decode cX0_set 4 = .ok (.iload_n 1, 1) := by decide +kernel
theorem dX0_set_5 : decode cX0_set 5 = .ok (.bipush 8, 2) := by decide +kernel
theorem dX0_set_7 : decode cX0_set 7 = .ok (.imul, 1) := by decide +kernel
theorem dX0_set_8 : decode cX0_set 8 = .ok (.iload_n 2, 1) := by decide +kernel
theorem dX0_set_9 : decode cX0_set 9 = .ok (.iastore, 1) := by decide +kernel
theorem dX0_set_10 : decode cX0_set 10 = .ok (.iconst 1, 1) := by decide +kernel
theorem dX0_set_11 : decode cX0_set 11 = .ok (.istore_n 3, 1) := by decide +kernel
theorem dX0_set_12 : decode cX0_set 12 = .ok (.iload_n 3, 1) := by decide +kernel
theorem dX0_set_13 : decode cX0_set 13 = .ok (.bipush 8, 2) := by decide +kernel
theorem dX0_set_15 : decode cX0_set 15 = .ok (.if_icmp .ge 29, 3) := by decide +kernel
theorem dX0_set_18 : decode cX0_set 18 = .ok (.aload_n 0, 1) := by decide +kernel
theorem dX0_set_19 : decode cX0_set 19 = .ok (.getfield 11, 3) := by decide +kernel
theorem dX0_set_22 : decode cX0_set 22 = .ok (.iload_n 1, 1) := by decide +kernel
theorem dX0_set_23 : decode cX0_set 23 = .ok (.bipush 8, 2) := by decide +kernel
theorem dX0_set_25 : decode cX0_set 25 = .ok (.imul, 1) := by decide +kernel
theorem dX0_set_26 : decode cX0_set 26 = .ok (.iload_n 3, 1) := by decide +kernel
theorem dX0_set_27 : decode cX0_set 27 = .ok (.iadd, 1) := by decide +kernel
theorem dX0_set_28 : decode cX0_set 28 = .ok (.iload_n 2, 1) := by decide +kernel
theorem dX0_set_29 : decode cX0_set 29 = .ok (.ifCond .ge 7, 3) := by decide +kernel
theorem dX0_set_32 : decode cX0_set 32 = .ok (.iconst (-1), 1) := by decide +kernel
theorem dX0_set_33 : decode cX0_set 33 = .ok (.goto 4, 3) := by decide +kernel
theorem dX0_set_36 : decode cX0_set 36 = .ok (.iconst 0, 1) := by decide +kernel
theorem dX0_set_37 : decode cX0_set 37 = .ok (.iastore, 1) := by decide +kernel
theorem dX0_set_38 : decode cX0_set 38 = .ok (.iinc 3 1, 3) := by decide +kernel
theorem dX0_set_41 : decode cX0_set 41 = .ok (.goto (-29), 3) := by decide +kernel
theorem dX0_set_44 : decode cX0_set 44 = .ok (.return_, 1) := by decide +kernel
theorem dX1_init_0 : decode cX1_init 0 = .ok (.aload_n 0, 1) := by decide +kernel
theorem dX1_init_1 : decode cX1_init 1 = .ok (.invokespecial 3, 3) := by decide +kernel
theorem dX1_init_4 : decode cX1_init 4 = .ok (.aload_n 0, 1) := by decide +kernel
theorem dX1_init_5 : decode cX1_init 5 = .ok (.bipush 30, 2) := by decide +kernel
theorem dX1_init_7 : decode cX1_init 7 = .ok (.newarray .int, 2) := by decide +kernel
theorem dX1_init_9 : decode cX1_init 9 = .ok (.putfield 9, 3) := by decide +kernel
theorem dX1_init_12 : decode cX1_init 12 = .ok (.aload_n 0, 1) := by decide +kernel
theorem dX1_init_13 : decode cX1_init 13 = .ok (.bipush 30, 2) := by decide +kernel
theorem dX1_init_15 : decode cX1_init 15 = .ok (.newarray .int, 2) := by decide +kernel
theorem dX1_init_17 : decode cX1_init 17 = .ok (.putfield 15, 3) := by decide +kernel
theorem dX1_init_20 : decode cX1_init 20 = .ok (.aload_n 0, 1) := by decide +kernel
theorem dX1_init_21 : decode cX1_init 21 = .ok (.bipush 30, 2) := by decide +kernel
theorem dX1_init_23 : decode cX1_init 23 = .ok (.newarray .int, 2) := by decide +kernel
theorem dX1_init_25 : decode cX1_init 25 = .ok (.putfield 18, 3) := by decide +kernel
theorem dX1_init_28 : decode cX1_init 28 = .ok (.aload_n 0, 1) := by decide +kernel
theorem dX1_init_29 : decode cX1_init 29 = .ok (.bipush 30, 2) := by decide +kernel
theorem dX1_init_31 : decode cX1_init 31 = .ok (.newarray .boolean, 2) := by decide +kernel
theorem dX1_init_33 : decode cX1_init 33 = .ok (.putfield 21, 3) := by decide +kernel
theorem dX1_init_36 : decode cX1_init 36 = .ok (.aload_n 0, 1) := by decide +kernel
theorem dX1_init_37 : decode cX1_init 37 = .ok (.bipush 30, 2) := by decide +kernel
theorem dX1_init_39 : decode cX1_init 39 = .ok (.newarray .int, 2) := by decide +kernel
theorem dX1_init_41 : decode cX1_init 41 = .ok (.putfield 25, 3) := by decide +kernel
theorem dX1_init_44 : decode cX1_init 44 = .ok (.aload_n 0, 1) := by decide +kernel
theorem dX1_init_45 : decode cX1_init 45 = .ok (.bipush 30, 2) := by decide +kernel
theorem dX1_init_47 : decode cX1_init 47 = .ok (.newarray .int, 2) := by decide +kernel
theorem dX1_init_49 : decode cX1_init 49 = .ok (.putfield 28, 3) := by decide +kernel
theorem dX1_init_52 : decode cX1_init 52 = .ok (.aload_n 0, 1) := by decide +kernel
theorem dX1_init_53 : decode cX1_init 53 = .ok (.bipush 30, 2) := by decide +kernel
theorem dX1_init_55 : decode cX1_init 55 = .ok (.newarray .int, 2) := by decide +kernel
theorem dX1_init_57 : decode cX1_init 57 = .ok (.putfield 31, 3) := by decide +kernel
theorem dX1_init_60 : decode cX1_init 60 = .ok (.aload_n 0, 1) := by decide +kernel
theorem dX1_init_61 : decode cX1_init 61 = .ok (.bipush 30, 2) := by decide +kernel
theorem dX1_init_63 : decode cX1_init 63 = .ok (.newarray .int, 2) := by decide +kernel
theorem dX1_init_65 : decode cX1_init 65 = .ok (.putfield 34, 3) := by decide +kernel
theorem dX1_init_68 : decode cX1_init 68 = .ok (.aload_n 0, 1) := by decide +kernel
theorem dX1_init_69 : decode cX1_init 69 = .ok (.sipush 1200, 3) := by decide +kernel
theorem dX1_init_72 : decode cX1_init 72 = .ok (.newarray .int, 2) := by decide +kernel
theorem dX1_init_74 : decode cX1_init 74 = .ok (.putfield 37, 3) := by decide +kernel
theorem dX1_init_77 : decode cX1_init 77 = .ok (.aload_n 0, 1) := by decide +kernel
theorem dX1_init_78 : decode cX1_init 78 = .ok (.sipush 1200, 3) := by decide +kernel
theorem dX1_init_81 : decode cX1_init 81 = .ok (.newarray .int, 2) := by decide +kernel
theorem dX1_init_83 : decode cX1_init 83 = .ok (.putfield 40, 3) := by decide +kernel
theorem dX1_init_86 : decode cX1_init 86 = .ok (.return_, 1) := by decide +kernel
theorem dX1_has_0 : decode cX1_has 0 = .ok (.iload_n 1, 1) := by decide +kernel
theorem dX1_has_1 : decode cX1_has 1 = .ok (.ifCond .lt 15, 3) := by decide +kernel
theorem dX1_has_4 : decode cX1_has 4 = .ok (.iload_n 1, 1) := by decide +kernel
theorem dX1_has_5 : decode cX1_has 5 = .ok (.aload_n 0, 1) := by decide +kernel
theorem dX1_has_6 : decode cX1_has 6 = .ok (.getfield 43, 3) := by decide +kernel
theorem dX1_has_9 : decode cX1_has 9 = .ok (.if_icmp .ge 7, 3) := by decide +kernel
theorem dX1_has_12 : decode cX1_has 12 = .ok (.iconst 1, 1) := by decide +kernel
theorem dX1_has_13 : decode cX1_has 13 = .ok (.goto 4, 3) := by decide +kernel
theorem dX1_has_16 : decode cX1_has 16 = .ok (.iconst 0, 1) := by decide +kernel
theorem dX1_has_17 : decode cX1_has 17 = .ok (.ireturn, 1) := by decide +kernel
theorem dX1_hasOp_0 : decode cX1_hasOp 0 = .ok (.aload_n 0, 1) := by decide +kernel
theorem dX1_hasOp_1 : decode cX1_hasOp 1 = .ok (.iload_n 1, 1) := by decide +kernel
theorem dX1_hasOp_2 : decode cX1_hasOp 2 = .ok (.invokevirtual 47, 3) := by decide +kernel
theorem dX1_hasOp_5 : decode cX1_hasOp 5 = .ok (.ifCond .eq 21, 3) := by decide +kernel
theorem dX1_hasOp_8 : decode cX1_hasOp 8 = .ok (.iload_n 2, 1) := by decide +kernel
theorem dX1_hasOp_9 : decode cX1_hasOp 9 = .ok (.ifCond .lt 17, 3) := by decide +kernel
theorem dX1_hasOp_12 : decode cX1_hasOp 12 = .ok (.iload_n 2, 1) := by decide +kernel
theorem dX1_hasOp_13 : decode cX1_hasOp 13 = .ok (.aload_n 0, 1) := by decide +kernel
theorem dX1_hasOp_14 : decode cX1_hasOp 14 = .ok (.getfield 34, 3) := by decide +kernel
theorem dX1_hasOp_17 : decode cX1_hasOp 17 = .ok (.iload_n 1, 1) := by decide +kernel
theorem dX1_hasOp_18 : decode cX1_hasOp 18 = .ok (.iaload, 1) := by decide +kernel
theorem dX1_hasOp_19 : decode cX1_hasOp 19 = .ok (.if_icmp .ge 7, 3) := by decide +kernel
theorem dX1_hasOp_22 : decode cX1_hasOp 22 = .ok (.iconst 1, 1) := by decide +kernel
theorem dX1_hasOp_23 : decode cX1_hasOp 23 = .ok (.goto 4, 3) := by decide +kernel
theorem dX1_hasOp_26 : decode cX1_hasOp 26 = .ok (.iconst 0, 1) := by decide +kernel
theorem dX1_hasOp_27 : decode cX1_hasOp 27 = .ok (.ireturn, 1) := by decide +kernel
theorem dX1_search_0 : decode cX1_search 0 = .ok (.iconst (-1), 1) := by decide +kernel
theorem dX1_search_1 : decode cX1_search 1 = .ok (.istore_n 2, 1) := by decide +kernel
theorem dX1_search_2 : decode cX1_search 2 = .ok (.aload_n 0, 1) := by decide +kernel
theorem dX1_search_3 : decode cX1_search 3 = .ok (.getfield 43, 3) := by decide +kernel
theorem dX1_search_6 : decode cX1_search 6 = .ok (.iconst 1, 1) := by decide +kernel
theorem dX1_search_7 : decode cX1_search 7 = .ok (.isub, 1) := by decide +kernel
theorem dX1_search_8 : decode cX1_search 8 = .ok (.istore_n 3, 1) := by decide +kernel
theorem dX1_search_9 : decode cX1_search 9 = .ok (.iload_n 3, 1) := by decide +kernel
theorem dX1_search_10 : decode cX1_search 10 = .ok (.ifCond .lt 60, 3) := by decide +kernel
theorem dX1_search_13 : decode cX1_search 13 = .ok (.aload_n 0, 1) := by decide +kernel
theorem dX1_search_14 : decode cX1_search 14 = .ok (.getfield 9, 3) := by decide +kernel
theorem dX1_search_17 : decode cX1_search 17 = .ok (.iload_n 3, 1) := by decide +kernel
theorem dX1_search_18 : decode cX1_search 18 = .ok (.iaload, 1) := by decide +kernel
theorem dX1_search_19 : decode cX1_search 19 = .ok (.iload_n 1, 1) := by decide +kernel
theorem dX1_search_20 : decode cX1_search 20 = .ok (.if_icmp .ne 18, 3) := by decide +kernel
theorem dX1_search_23 : decode cX1_search 23 = .ok (.aload_n 0, 1) := by decide +kernel
theorem dX1_search_24 : decode cX1_search 24 = .ok (.getfield 15, 3) := by decide +kernel
theorem dX1_search_27 : decode cX1_search 27 = .ok (.iload_n 3, 1) := by decide +kernel
theorem dX1_search_28 : decode cX1_search 28 = .ok (.iaload, 1) := by decide +kernel
theorem dX1_search_29 : decode cX1_search 29 = .ok (.aload_n 0, 1) := by decide +kernel
theorem dX1_search_30 : decode cX1_search 30 = .ok (.getfield 68, 3) := by decide +kernel
theorem dX1_search_33 : decode cX1_search 33 = .ok (.if_icmp .ne 5, 3) := by decide +kernel
theorem dX1_search_36 : decode cX1_search 36 = .ok (.iload_n 3, 1) := by decide +kernel
theorem dX1_search_37 : decode cX1_search 37 = .ok (.ireturn, 1) := by decide +kernel
theorem dX1_search_38 : decode cX1_search 38 = .ok (.aload_n 0, 1) := by decide +kernel
theorem dX1_search_39 : decode cX1_search 39 = .ok (.getfield 9, 3) := by decide +kernel
theorem dX1_search_42 : decode cX1_search 42 = .ok (.iload_n 3, 1) := by decide +kernel
theorem dX1_search_43 : decode cX1_search 43 = .ok (.iaload, 1) := by decide +kernel
theorem dX1_search_44 : decode cX1_search 44 = .ok (.iload_n 1, 1) := by decide +kernel
theorem dX1_search_45 : decode cX1_search 45 = .ok (.if_icmp .ne 19, 3) := by decide +kernel
theorem dX1_search_48 : decode cX1_search 48 = .ok (.aload_n 0, 1) := by decide +kernel
theorem dX1_search_49 : decode cX1_search 49 = .ok (.getfield 15, 3) := by decide +kernel
theorem dX1_search_52 : decode cX1_search 52 = .ok (.iload_n 3, 1) := by decide +kernel
theorem dX1_search_53 : decode cX1_search 53 = .ok (.iaload, 1) := by decide +kernel
theorem dX1_search_54 : decode cX1_search 54 = .ok (.ifCond .ne 10, 3) := by decide +kernel
theorem dX1_search_57 : decode cX1_search 57 = .ok (.iload_n 2, 1) := by decide +kernel
theorem dX1_search_58 : decode cX1_search 58 = .ok (.iconst (-1), 1) := by decide +kernel
theorem dX1_search_59 : decode cX1_search 59 = .ok (.if_icmp .ne 5, 3) := by decide +kernel
theorem dX1_search_62 : decode cX1_search 62 = .ok (.iload_n 3, 1) := by decide +kernel
theorem dX1_search_63 : decode cX1_search 63 = .ok (.istore_n 2, 1) := by decide +kernel
theorem dX1_search_64 : decode cX1_search 64 = .ok (.iinc 3 (-1), 3) := by decide +kernel
theorem dX1_search_67 : decode cX1_search 67 = .ok (.goto (-58), 3) := by decide +kernel
theorem dX1_search_70 : decode cX1_search 70 = .ok (.iload_n 2, 1) := by decide +kernel
theorem dX1_search_71 : decode cX1_search 71 = .ok (.ireturn, 1) := by decide +kernel
theorem dX2_init_0 : decode cX2_init 0 = .ok (.aload_n 0, 1) := by decide +kernel
theorem dX2_init_1 : decode cX2_init 1 = .ok (.invokespecial 3, 3) := by decide +kernel
theorem dX2_init_4 : decode cX2_init 4 = .ok (.aload_n 0, 1) := by decide +kernel
theorem dX2_init_5 : decode cX2_init 5 = .ok (.bipush 40, 2) := by decide +kernel
theorem dX2_init_7 : decode cX2_init 7 = .ok (.newarray .int, 2) := by decide +kernel
theorem dX2_init_9 : decode cX2_init 9 = .ok (.putfield 9, 3) := by decide +kernel
theorem dX2_init_12 : decode cX2_init 12 = .ok (.aload_n 0, 1) := by decide +kernel
theorem dX2_init_13 : decode cX2_init 13 = .ok (.bipush 40, 2) := by decide +kernel
theorem dX2_init_15 : decode cX2_init 15 = .ok (.newarray .int, 2) := by decide +kernel
theorem dX2_init_17 : decode cX2_init 17 = .ok (.putfield 15, 3) := by decide +kernel
theorem dX2_init_20 : decode cX2_init 20 = .ok (.aload_n 0, 1) := by decide +kernel
theorem dX2_init_21 : decode cX2_init 21 = .ok (.bipush 40, 2) := by decide +kernel
theorem dX2_init_23 : decode cX2_init 23 = .ok (.newarray .int, 2) := by decide +kernel
theorem dX2_init_25 : decode cX2_init 25 = .ok (.putfield 18, 3) := by decide +kernel
theorem dX2_init_28 : decode cX2_init 28 = .ok (.aload_n 0, 1) := by decide +kernel
theorem dX2_init_29 : decode cX2_init 29 = .ok (.sipush 160, 3) := by decide +kernel
theorem dX2_init_32 : decode cX2_init 32 = .ok (.newarray .int, 2) := by decide +kernel
theorem dX2_init_34 : decode cX2_init 34 = .ok (.putfield 21, 3) := by decide +kernel
theorem dX2_init_37 : decode cX2_init 37 = .ok (.aload_n 0, 1) := by decide +kernel
theorem dX2_init_38 : decode cX2_init 38 = .ok (.sipush 160, 3) := by decide +kernel
theorem dX2_init_41 : decode cX2_init 41 = .ok (.newarray .int, 2) := by decide +kernel
theorem dX2_init_43 : decode cX2_init 43 = .ok (.putfield 24, 3) := by decide +kernel
theorem dX2_init_46 : decode cX2_init 46 = .ok (.aload_n 0, 1) := by decide +kernel
theorem dX2_init_47 : decode cX2_init 47 = .ok (.sipush 160, 3) := by decide +kernel
theorem dX2_init_50 : decode cX2_init 50 = .ok (.newarray .int, 2) := by decide +kernel
theorem dX2_init_52 : decode cX2_init 52 = .ok (.putfield 27, 3) := by decide +kernel
theorem dX2_init_55 : decode cX2_init 55 = .ok (.return_, 1) := by decide +kernel
theorem dX3_init_0 : decode cX3_init 0 = .ok (.aload_n 0, 1) := by decide +kernel
theorem dX3_init_1 : decode cX3_init 1 = .ok (.invokespecial 5, 3) := by decide +kernel
theorem dX3_init_4 : decode cX3_init 4 = .ok (.aload_n 0, 1) := by decide +kernel
theorem dX3_init_5 : decode cX3_init 5 = .ok (.bipush 30, 2) := by decide +kernel
theorem dX3_init_7 : decode cX3_init 7 = .ok (.newarray .boolean, 2) := by decide +kernel
theorem dX3_init_9 : decode cX3_init 9 = .ok (.putfield 11, 3) := by decide +kernel
theorem dX3_init_12 : decode cX3_init 12 = .ok (.aload_n 0, 1) := by decide +kernel
theorem dX3_init_13 : decode cX3_init 13 = .ok (.new 15, 3) := by decide +kernel
theorem dX3_init_16 : decode cX3_init 16 = .ok (.dup, 1) := by decide +kernel
theorem dX3_init_17 : decode cX3_init 17 = .ok (.invokespecial 17, 3) := by decide +kernel
theorem dX3_init_20 : decode cX3_init 20 = .ok (.putfield 18, 3) := by decide +kernel
theorem dX3_init_23 : decode cX3_init 23 = .ok (.aload_n 0, 1) := by decide +kernel
theorem dX3_init_24 : decode cX3_init 24 = .ok (.bipush 41, 2) := by decide +kernel
theorem dX3_init_26 : decode cX3_init 26 = .ok (.newarray .boolean, 2) := by decide +kernel
theorem dX3_init_28 : decode cX3_init 28 = .ok (.putfield 22, 3) := by decide +kernel
theorem dX3_init_31 : decode cX3_init 31 = .ok (.aload_n 0, 1) := by decide +kernel
theorem dX3_init_32 : decode cX3_init 32 = .ok (.bipush 41, 2) := by decide +kernel
theorem dX3_init_34 : decode cX3_init 34 = .ok (.newarray .int, 2) := by decide +kernel
theorem dX3_init_36 : decode cX3_init 36 = .ok (.putfield 25, 3) := by decide +kernel
theorem dX3_init_39 : decode cX3_init 39 = .ok (.aload_n 0, 1) := by decide +kernel
theorem dX3_init_40 : decode cX3_init 40 = .ok (.aload_n 1, 1) := by decide +kernel
theorem dX3_init_41 : decode cX3_init 41 = .ok (.putfield 29, 3) := by decide +kernel
theorem dX3_init_44 : decode cX3_init 44 = .ok (.iconst 0, 1) := by decide +kernel
theorem dX3_init_45 : decode cX3_init 45 = .ok (.istore_n 2, 1) := by decide +kernel
theorem dX3_init_46 : decode cX3_init 46 = .ok (.iload_n 2, 1) := by decide +kernel
theorem dX3_init_47 : decode cX3_init 47 = .ok (.iconst 4, 1) := by decide +kernel
theorem dX3_init_48 : decode cX3_init 48 = .ok (.if_icmp .ge 21, 3) := by decide +kernel
theorem dX3_init_51 : decode cX3_init 51 = .ok (.aload_n 0, 1) := by decide +kernel
theorem dX3_init_52 : decode cX3_init 52 = .ok (.getfield 18, 3) := by decide +kernel
theorem dX3_init_55 : decode cX3_init 55 = .ok (.bipush 101, 2) := by decide +kernel
theorem dX3_init_57 : decode cX3_init 57 = .ok (.iload_n 2, 1) := by decide +kernel
theorem dX3_init_58 : decode cX3_init 58 = .ok (.iadd, 1) := by decide +kernel
theorem dX3_init_59 : decode cX3_init 59 = .ok (.iload_n 2, 1) := by decide +kernel
theorem dX3_init_60 : decode cX3_init 60 = .ok (.invokevirtual 33, 3) := by decide +kernel
theorem dX3_init_63 : decode cX3_init 63 = .ok (.iinc 2 1, 3) := by decide +kernel
theorem dX3_init_66 : decode cX3_init 66 = .ok (.goto (-20), 3) := by decide +kernel
theorem dX3_init_69 : decode cX3_init 69 = .ok (.return_, 1) := by decide +kernel
theorem dX3_measureThrough_0 : decode cX3_measureThrough 0 = .ok (.iconst 0, 1) := by decide +kernel
theorem dX3_measureThrough_1 : decode cX3_measureThrough 1 = .ok (.istore_n 2, 1) := by decide +kernel
theorem dX3_measureThrough_2 : decode cX3_measureThrough 2 = .ok (.iload_n 2, 1) := by decide +kernel
theorem dX3_measureThrough_3 : decode cX3_measureThrough 3 = .ok (.iload_n 1, 1) := by decide +kernel
theorem dX3_measureThrough_4 : decode cX3_measureThrough 4 = .ok (.if_icmp .gt 31, 3) := by decide +kernel
theorem dX3_measureThrough_7 : decode cX3_measureThrough 7 = .ok (.iload_n 2, 1) := by decide +kernel
theorem dX3_measureThrough_8 : decode cX3_measureThrough 8 = .ok (.aload_n 0, 1) := by decide +kernel
theorem dX3_measureThrough_9 : decode cX3_measureThrough 9 = .ok (.getfield 29, 3) := by decide +kernel
theorem dX3_measureThrough_12 : decode cX3_measureThrough 12 = .ok (.getfield 48, 3) := by decide +kernel
theorem dX3_measureThrough_15 : decode cX3_measureThrough 15 = .ok (.if_icmp .ge 20, 3) := by decide +kernel
theorem dX3_measureThrough_18 : decode cX3_measureThrough 18 = .ok (.aload_n 0, 1) := by decide +kernel
theorem dX3_measureThrough_19 : decode cX3_measureThrough 19 = .ok (.getfield 11, 3) := by decide +kernel
theorem dX3_measureThrough_22 : decode cX3_measureThrough 22 = .ok (.iload_n 2, 1) := by decide +kernel
theorem dX3_measureThrough_23 : decode cX3_measureThrough 23 = .ok (.aload_n 0, 1) := by decide +kernel
theorem dX3_measureThrough_24 : decode cX3_measureThrough 24 = .ok (.iload_n 2, 1) := by decide +kernel
theorem dX3_measureThrough_25 : decode cX3_measureThrough 25 = .ok (.invokevirtual 54, 3) := by decide +kernel
theorem dX3_measureThrough_28 : decode cX3_measureThrough 28 = .ok (.bastore, 1) := by decide +kernel
theorem dX3_measureThrough_29 : decode cX3_measureThrough 29 = .ok (.iinc 2 1, 3) := by decide +kernel
theorem dX3_measureThrough_32 : decode cX3_measureThrough 32 = .ok (.goto (-30), 3) := by decide +kernel
theorem dX3_measureThrough_35 : decode cX3_measureThrough 35 = .ok (.return_, 1) := by decide +kernel
theorem dX4_init_0 : decode cX4_init 0 = .ok (.aload_n 0, 1) := by decide +kernel
theorem dX4_init_1 : decode cX4_init 1 = .ok (.invokespecial 3, 3) := by decide +kernel
theorem dX4_init_4 : decode cX4_init 4 = .ok (.aload_n 0, 1) := by decide +kernel
theorem dX4_init_5 : decode cX4_init 5 = .ok (.bipush 30, 2) := by decide +kernel
theorem dX4_init_7 : decode cX4_init 7 = .ok (.newarray .int, 2) := by decide +kernel
theorem dX4_init_9 : decode cX4_init 9 = .ok (.putfield 9, 3) := by decide +kernel
theorem dX4_init_12 : decode cX4_init 12 = .ok (.aload_n 0, 1) := by decide +kernel
theorem dX4_init_13 : decode cX4_init 13 = .ok (.bipush 30, 2) := by decide +kernel
theorem dX4_init_15 : decode cX4_init 15 = .ok (.newarray .int, 2) := by decide +kernel
theorem dX4_init_17 : decode cX4_init 17 = .ok (.putfield 15, 3) := by decide +kernel
theorem dX4_init_20 : decode cX4_init 20 = .ok (.aload_n 0, 1) := by decide +kernel
theorem dX4_init_21 : decode cX4_init 21 = .ok (.bipush 31, 2) := by decide +kernel
theorem dX4_init_23 : decode cX4_init 23 = .ok (.newarray .boolean, 2) := by decide +kernel
theorem dX4_init_25 : decode cX4_init 25 = .ok (.putfield 18, 3) := by decide +kernel
theorem dX4_init_28 : decode cX4_init 28 = .ok (.aload_n 0, 1) := by decide +kernel
theorem dX4_init_29 : decode cX4_init 29 = .ok (.aload_n 1, 1) := by decide +kernel
theorem dX4_init_30 : decode cX4_init 30 = .ok (.putfield 22, 3) := by decide +kernel
theorem dX4_init_33 : decode cX4_init 33 = .ok (.return_, 1) := by decide +kernel
theorem dX5_init_0 : decode cX5_init 0 = .ok (.aload_n 0, 1) := by decide +kernel
theorem dX5_init_1 : decode cX5_init 1 = .ok (.invokespecial 3, 3) := by decide +kernel
theorem dX5_init_4 : decode cX5_init 4 = .ok (.aload_n 0, 1) := by decide +kernel
theorem dX5_init_5 : decode cX5_init 5 = .ok (.bipush 40, 2) := by decide +kernel
theorem dX5_init_7 : decode cX5_init 7 = .ok (.newarray .int, 2) := by decide +kernel
theorem dX5_init_9 : decode cX5_init 9 = .ok (.putfield 9, 3) := by decide +kernel
theorem dX5_init_12 : decode cX5_init 12 = .ok (.aload_n 0, 1) := by decide +kernel
theorem dX5_init_13 : decode cX5_init 13 = .ok (.bipush 40, 2) := by decide +kernel
theorem dX5_init_15 : decode cX5_init 15 = .ok (.newarray .int, 2) := by decide +kernel
theorem dX5_init_17 : decode cX5_init 17 = .ok (.putfield 15, 3) := by decide +kernel
theorem dX5_init_20 : decode cX5_init 20 = .ok (.return_, 1) := by decide +kernel
theorem dX5_isFull_0 : decode cX5_isFull 0 = .ok (.aload_n 0, 1) := by decide +kernel
theorem dX5_isFull_1 : decode cX5_isFull 1 = .ok (.getfield 18, 3) := by decide +kernel
theorem dX5_isFull_4 : decode cX5_isFull 4 = .ok (.bipush 40, 2) := by decide +kernel
theorem dX5_isFull_6 : decode cX5_isFull 6 = .ok (.if_icmp .lt 7, 3) := by decide +kernel
theorem dX5_isFull_9 : decode cX5_isFull 9 = .ok (.iconst 1, 1) := by decide +kernel
theorem dX5_isFull_10 : decode cX5_isFull 10 = .ok (.goto 4, 3) := by decide +kernel
theorem dX5_isFull_13 : decode cX5_isFull 13 = .ok (.iconst 0, 1) := by decide +kernel
theorem dX5_isFull_14 : decode cX5_isFull 14 = .ok (.ireturn, 1) := by decide +kernel
theorem dX5_add_0 : decode cX5_add 0 = .ok (.aload_n 0, 1) := by decide +kernel
theorem dX5_add_1 : decode cX5_add 1 = .ok (.getfield 18, 3) := by decide +kernel
theorem dX5_add_4 : decode cX5_add 4 = .ok (.bipush 40, 2) := by decide +kernel
theorem dX5_add_6 : decode cX5_add 6 = .ok (.if_icmp .ge 33, 3) := by decide +kernel
theorem dX5_add_9 : decode cX5_add 9 = .ok (.aload_n 0, 1) := by decide +kernel
theorem dX5_add_10 : decode cX5_add 10 = .ok (.getfield 9, 3) := by decide +kernel
theorem dX5_add_13 : decode cX5_add 13 = .ok (.aload_n 0, 1) := by decide +kernel
theorem dX5_add_14 : decode cX5_add 14 = .ok (.getfield 18, 3) := by decide +kernel
theorem dX5_add_17 : decode cX5_add 17 = .ok (.iload_n 1, 1) := by decide +kernel
theorem dX5_add_18 : decode cX5_add 18 = .ok (.iastore, 1) := by decide +kernel
theorem dX5_add_19 : decode cX5_add 19 = .ok (.aload_n 0, 1) := by decide +kernel
theorem dX5_add_20 : decode cX5_add 20 = .ok (.getfield 15, 3) := by decide +kernel
theorem dX5_add_23 : decode cX5_add 23 = .ok (.aload_n 0, 1) := by decide +kernel
theorem dX5_add_24 : decode cX5_add 24 = .ok (.getfield 18, 3) := by decide +kernel
theorem dX5_add_27 : decode cX5_add 27 = .ok (.iload_n 2, 1) := by decide +kernel
theorem dX5_add_28 : decode cX5_add 28 = .ok (.iastore, 1) := by decide +kernel
theorem dX5_add_29 : decode cX5_add 29 = .ok (.aload_n 0, 1) := by decide +kernel
theorem dX5_add_30 : decode cX5_add 30 = .ok (.dup, 1) := by decide +kernel
theorem dX5_add_31 : decode cX5_add 31 = .ok (.getfield 18, 3) := by decide +kernel
theorem dX5_add_34 : decode cX5_add 34 = .ok (.iconst 1, 1) := by decide +kernel
theorem dX5_add_35 : decode cX5_add 35 = .ok (.iadd, 1) := by decide +kernel
theorem dX5_add_36 : decode cX5_add 36 = .ok (.putfield 18, 3) := by decide +kernel
theorem dX5_add_39 : decode cX5_add 39 = .ok (.aload_n 0, 1) := by decide +kernel
theorem dX5_add_40 : decode cX5_add 40 = .ok (.getfield 18, 3) := by decide +kernel
theorem dX5_add_43 : decode cX5_add 43 = .ok (.ireturn, 1) := by decide +kernel
theorem dX5_hasMore_0 : decode cX5_hasMore 0 = .ok (.aload_n 0, 1) := by decide +kernel
theorem dX5_hasMore_1 : decode cX5_hasMore 1 = .ok (.getfield 22, 3) := by decide +kernel
theorem dX5_hasMore_4 : decode cX5_hasMore 4 = .ok (.aload_n 0, 1) := by decide +kernel
theorem dX5_hasMore_5 : decode cX5_hasMore 5 = .ok (.getfield 18, 3) := by decide +kernel
theorem dX5_hasMore_8 : decode cX5_hasMore 8 = .ok (.if_icmp .ge 7, 3) := by decide +kernel
theorem dX5_hasMore_11 : decode cX5_hasMore 11 = .ok (.iconst 1, 1) := by decide +kernel
theorem dX5_hasMore_12 : decode cX5_hasMore 12 = .ok (.goto 4, 3) := by decide +kernel
theorem dX5_hasMore_15 : decode cX5_hasMore 15 = .ok (.iconst 0, 1) := by decide +kernel
theorem dX5_hasMore_16 : decode cX5_hasMore 16 = .ok (.ireturn, 1) := by decide +kernel
theorem dX5_clear_0 : decode cX5_clear 0 = .ok (.aload_n 0, 1) := by decide +kernel
theorem dX5_clear_1 : decode cX5_clear 1 = .ok (.iconst 0, 1) := by decide +kernel
theorem dX5_clear_2 : decode cX5_clear 2 = .ok (.putfield 18, 3) := by decide +kernel
theorem dX5_clear_5 : decode cX5_clear 5 = .ok (.aload_n 0, 1) := by decide +kernel
theorem dX5_clear_6 : decode cX5_clear 6 = .ok (.iconst 0, 1) := by decide +kernel
theorem dX5_clear_7 : decode cX5_clear 7 = .ok (.putfield 22, 3) := by decide +kernel
theorem dX5_clear_10 : decode cX5_clear 10 = .ok (.return_, 1) := by decide +kernel
theorem dX6_init_0 : decode cX6_init 0 = .ok (.aload_n 0, 1) := by decide +kernel
theorem dX6_init_1 : decode cX6_init 1 = .ok (.invokespecial 3, 3) := by decide +kernel
theorem dX6_init_4 : decode cX6_init 4 = .ok (.aload_n 0, 1) := by decide +kernel
theorem dX6_init_5 : decode cX6_init 5 = .ok (.new 9, 3) := by decide +kernel
theorem dX6_init_8 : decode cX6_init 8 = .ok (.dup, 1) := by decide +kernel
theorem dX6_init_9 : decode cX6_init 9 = .ok (.invokespecial 11, 3) := by decide +kernel
theorem dX6_init_12 : decode cX6_init 12 = .ok (.putfield 12, 3) := by decide +kernel
theorem dX6_init_15 : decode cX6_init 15 = .ok (.aload_n 0, 1) := by decide +kernel
theorem dX6_init_16 : decode cX6_init 16 = .ok (.new 9, 3) := by decide +kernel
theorem dX6_init_19 : decode cX6_init 19 = .ok (.dup, 1) := by decide +kernel
theorem dX6_init_20 : decode cX6_init 20 = .ok (.invokespecial 11, 3) := by decide +kernel
theorem dX6_init_23 : decode cX6_init 23 = .ok (.putfield 18, 3) := by decide +kernel
theorem dX6_init_26 : decode cX6_init 26 = .ok (.aload_n 0, 1) := by decide +kernel
theorem dX6_init_27 : decode cX6_init 27 = .ok (.bipush 100, 2) := by decide +kernel
theorem dX6_init_29 : decode cX6_init 29 = .ok (.newarray .int, 2) := by decide +kernel
theorem dX6_init_31 : decode cX6_init 31 = .ok (.putfield 21, 3) := by decide +kernel
theorem dX6_init_34 : decode cX6_init 34 = .ok (.aload_n 0, 1) := by decide +kernel
theorem dX6_init_35 : decode cX6_init 35 = .ok (.new 25, 3) := by decide +kernel
theorem dX6_init_38 : decode cX6_init 38 = .ok (.dup, 1) := by decide +kernel
theorem dX6_init_39 : decode cX6_init 39 = .ok (.invokespecial 27, 3) := by decide +kernel
theorem dX6_init_42 : decode cX6_init 42 = .ok (.putfield 28, 3) := by decide +kernel
theorem dX6_init_45 : decode cX6_init 45 = .ok (.aload_n 0, 1) := by decide +kernel
theorem dX6_init_46 : decode cX6_init 46 = .ok (.new 32, 3) := by decide +kernel
theorem dX6_init_49 : decode cX6_init 49 = .ok (.dup, 1) := by decide +kernel
theorem dX6_init_50 : decode cX6_init 50 = .ok (.invokespecial 34, 3) := by decide +kernel
theorem dX6_init_53 : decode cX6_init 53 = .ok (.putfield 35, 3) := by decide +kernel
theorem dX6_init_56 : decode cX6_init 56 = .ok (.aload_n 0, 1) := by decide +kernel
theorem dX6_init_57 : decode cX6_init 57 = .ok (.new 39, 3) := by decide +kernel
theorem dX6_init_60 : decode cX6_init 60 = .ok (.dup, 1) := by decide +kernel
theorem dX6_init_61 : decode cX6_init 61 = .ok (.invokespecial 41, 3) := by decide +kernel
theorem dX6_init_64 : decode cX6_init 64 = .ok (.putfield 42, 3) := by decide +kernel
theorem dX6_init_67 : decode cX6_init 67 = .ok (.aload_n 0, 1) := by decide +kernel
theorem dX6_init_68 : decode cX6_init 68 = .ok (.new 46, 3) := by decide +kernel
theorem dX6_init_71 : decode cX6_init 71 = .ok (.dup, 1) := by decide +kernel
theorem dX6_init_72 : decode cX6_init 72 = .ok (.invokespecial 48, 3) := by decide +kernel
theorem dX6_init_75 : decode cX6_init 75 = .ok (.putfield 49, 3) := by decide +kernel
theorem dX6_init_78 : decode cX6_init 78 = .ok (.aload_n 0, 1) := by decide +kernel
theorem dX6_init_79 : decode cX6_init 79 = .ok (.bipush 30, 2) := by decide +kernel
theorem dX6_init_81 : decode cX6_init 81 = .ok (.newarray .int, 2) := by decide +kernel
theorem dX6_init_83 : decode cX6_init 83 = .ok (.putfield 53, 3) := by decide +kernel
theorem dX6_init_86 : decode cX6_init 86 = .ok (.aload_n 0, 1) := by decide +kernel
theorem dX6_init_87 : decode cX6_init 87 = .ok (.bipush 30, 2) := by decide +kernel
theorem dX6_init_89 : decode cX6_init 89 = .ok (.newarray .int, 2) := by decide +kernel
theorem dX6_init_91 : decode cX6_init 91 = .ok (.putfield 56, 3) := by decide +kernel
theorem dX6_init_94 : decode cX6_init 94 = .ok (.aload_n 0, 1) := by decide +kernel
theorem dX6_init_95 : decode cX6_init 95 = .ok (.iload_n 1, 1) := by decide +kernel
theorem dX6_init_96 : decode cX6_init 96 = .ok (.putfield 59, 3) := by decide +kernel
theorem dX6_init_99 : decode cX6_init 99 = .ok (.return_, 1) := by decide +kernel
theorem dX7_init_0 : decode cX7_init 0 = .ok (.aload_n 0, 1) := by decide +kernel
theorem dX7_init_1 : decode cX7_init 1 = .ok (.invokespecial 3, 3) := by decide +kernel
theorem dX7_init_4 : decode cX7_init 4 = .ok (.aload_n 0, 1) := by decide +kernel
theorem dX7_init_5 : decode cX7_init 5 = .ok (.sipush 160, 3) := by decide +kernel
theorem dX7_init_8 : decode cX7_init 8 = .ok (.newarray .int, 2) := by decide +kernel
theorem dX7_init_10 : decode cX7_init 10 = .ok (.putfield 9, 3) := by decide +kernel
theorem dX7_init_13 : decode cX7_init 13 = .ok (.return_, 1) := by decide +kernel
theorem dX8_init_0 : decode cX8_init 0 = .ok (.aload_n 0, 1) := by decide +kernel
theorem dX8_init_1 : decode cX8_init 1 = .ok (.invokespecial 3, 3) := by decide +kernel
theorem dX8_init_4 : decode cX8_init 4 = .ok (.aload_n 0, 1) := by decide +kernel
theorem dX8_init_5 : decode cX8_init 5 = .ok (.aload_n 1, 1) := by decide +kernel
theorem dX8_init_6 : decode cX8_init 6 = .ok (.putfield 9, 3) := by decide +kernel
theorem dX8_init_9 : decode cX8_init 9 = .ok (.return_, 1) := by decide +kernel
theorem dX9_init_0 : decode cX9_init 0 = .ok (.aload_n 0, 1) := by decide +kernel
theorem dX9_init_1 : decode cX9_init 1 = .ok (.invokespecial 3, 3) := by decide +kernel
theorem dX9_init_4 : decode cX9_init 4 = .ok (.aload_n 0, 1) := by decide +kernel
theorem dX9_init_5 : decode cX9_init 5 = .ok (.new 9, 3) := by decide +kernel
theorem dX9_init_8 : decode cX9_init 8 = .ok (.dup, 1) := by decide +kernel
theorem dX9_init_9 : decode cX9_init 9 = .ok (.sipush 150, 3) := by decide +kernel
theorem dX9_init_12 : decode cX9_init 12 = .ok (.invokespecial 11, 3) := by decide +kernel
theorem dX9_init_15 : decode cX9_init 15 = .ok (.putfield 14, 3) := by decide +kernel
theorem dX9_init_18 : decode cX9_init 18 = .ok (.aload_n 0, 1) := by decide +kernel
theorem dX9_init_19 : decode cX9_init 19 = .ok (.new 20, 3) := by decide +kernel
theorem dX9_init_22 : decode cX9_init 22 = .ok (.dup, 1) := by decide +kernel
theorem dX9_init_23 : decode cX9_init 23 = .ok (.aload_n 0, 1) := by decide +kernel
theorem dX9_init_24 : decode cX9_init 24 = .ok (.getfield 14, 3) := by decide +kernel
theorem dX9_init_27 : decode cX9_init 27 = .ok (.invokespecial 22, 3) := by decide +kernel
theorem dX9_init_30 : decode cX9_init 30 = .ok (.putfield 25, 3) := by decide +kernel
theorem dX9_init_33 : decode cX9_init 33 = .ok (.aload_n 0, 1) := by decide +kernel
theorem dX9_init_34 : decode cX9_init 34 = .ok (.new 9, 3) := by decide +kernel
theorem dX9_init_37 : decode cX9_init 37 = .ok (.dup, 1) := by decide +kernel
theorem dX9_init_38 : decode cX9_init 38 = .ok (.sipush 150, 3) := by decide +kernel
theorem dX9_init_41 : decode cX9_init 41 = .ok (.invokespecial 11, 3) := by decide +kernel
theorem dX9_init_44 : decode cX9_init 44 = .ok (.putfield 29, 3) := by decide +kernel
theorem dX9_init_47 : decode cX9_init 47 = .ok (.aload_n 0, 1) := by decide +kernel
theorem dX9_init_48 : decode cX9_init 48 = .ok (.new 32, 3) := by decide +kernel
theorem dX9_init_51 : decode cX9_init 51 = .ok (.dup, 1) := by decide +kernel
theorem dX9_init_52 : decode cX9_init 52 = .ok (.aload_n 0, 1) := by decide +kernel
theorem dX9_init_53 : decode cX9_init 53 = .ok (.getfield 29, 3) := by decide +kernel
theorem dX9_init_56 : decode cX9_init 56 = .ok (.invokespecial 34, 3) := by decide +kernel
theorem dX9_init_59 : decode cX9_init 59 = .ok (.putfield 35, 3) := by decide +kernel
theorem dX9_init_62 : decode cX9_init 62 = .ok (.return_, 1) := by decide +kernel
theorem dX10_init_0 : decode cX10_init 0 = .ok (.aload_n 0, 1) := by decide +kernel
theorem dX10_init_1 : decode cX10_init 1 = .ok (.invokespecial 3, 3) := by decide +kernel
theorem dX10_init_4 : decode cX10_init 4 = .ok (.aload_n 0, 1) := by decide +kernel
theorem dX10_init_5 : decode cX10_init 5 = .ok (.bipush 40, 2) := by decide +kernel
theorem dX10_init_7 : decode cX10_init 7 = .ok (.newarray .int, 2) := by decide +kernel
theorem dX10_init_9 : decode cX10_init 9 = .ok (.putfield 9, 3) := by decide +kernel
theorem dX10_init_12 : decode cX10_init 12 = .ok (.aload_n 0, 1) := by decide +kernel
theorem dX10_init_13 : decode cX10_init 13 = .ok (.sipush 1240, 3) := by decide +kernel
theorem dX10_init_16 : decode cX10_init 16 = .ok (.newarray .int, 2) := by decide +kernel
theorem dX10_init_18 : decode cX10_init 18 = .ok (.putfield 15, 3) := by decide +kernel
theorem dX10_init_21 : decode cX10_init 21 = .ok (.aload_n 0, 1) := by decide +kernel
theorem dX10_init_22 : decode cX10_init 22 = .ok (.bipush 31, 2) := by decide +kernel
theorem dX10_init_24 : decode cX10_init 24 = .ok (.newarray .int, 2) := by decide +kernel
theorem dX10_init_26 : decode cX10_init 26 = .ok (.putfield 18, 3) := by decide +kernel
theorem dX10_init_29 : decode cX10_init 29 = .ok (.return_, 1) := by decide +kernel
theorem dX11_init_0 : decode cX11_init 0 = .ok (.aload_n 0, 1) := by decide +kernel
theorem dX11_init_1 : decode cX11_init 1 = .ok (.invokespecial 1, 3) := by decide +kernel
theorem dX11_init_4 : decode cX11_init 4 = .ok (.aload_n 0, 1) := by decide +kernel
theorem dX11_init_5 : decode cX11_init 5 = .ok (.new 7, 3) := by decide +kernel
theorem dX11_init_8 : decode cX11_init 8 = .ok (.dup, 1) := by decide +kernel
theorem dX11_init_9 : decode cX11_init 9 = .ok (.sipush 1000, 3) := by decide +kernel
theorem dX11_init_12 : decode cX11_init 12 = .ok (.invokespecial 11, 3) := by decide +kernel
theorem dX11_init_15 : decode cX11_init 15 = .ok (.putfield 14, 3) := by decide +kernel
theorem dX11_init_18 : decode cX11_init 18 = .ok (.aload_n 0, 1) := by decide +kernel
theorem dX11_init_19 : decode cX11_init 19 = .ok (.new 18, 3) := by decide +kernel
theorem dX11_init_22 : decode cX11_init 22 = .ok (.dup, 1) := by decide +kernel
theorem dX11_init_23 : decode cX11_init 23 = .ok (.aload_n 0, 1) := by decide +kernel
theorem dX11_init_24 : decode cX11_init 24 = .ok (.getfield 14, 3) := by decide +kernel
theorem dX11_init_27 : decode cX11_init 27 = .ok (.invokespecial 20, 3) := by decide +kernel
theorem dX11_init_30 : decode cX11_init 30 = .ok (.putfield 23, 3) := by decide +kernel
theorem dX11_init_33 : decode cX11_init 33 = .ok (.aload_n 0, 1) := by decide +kernel
theorem dX11_init_34 : decode cX11_init 34 = .ok (.new 27, 3) := by decide +kernel
theorem dX11_init_37 : decode cX11_init 37 = .ok (.dup, 1) := by decide +kernel
theorem dX11_init_38 : decode cX11_init 38 = .ok (.aload_n 0, 1) := by decide +kernel
theorem dX11_init_39 : decode cX11_init 39 = .ok (.getfield 14, 3) := by decide +kernel
theorem dX11_init_42 : decode cX11_init 42 = .ok (.getfield 29, 3) := by decide +kernel
theorem dX11_init_45 : decode cX11_init 45 = .ok (.invokespecial 33, 3) := by decide +kernel
theorem dX11_init_48 : decode cX11_init 48 = .ok (.putfield 36, 3) := by decide +kernel
theorem dX11_init_51 : decode cX11_init 51 = .ok (.aload_n 0, 1) := by decide +kernel
theorem dX11_init_52 : decode cX11_init 52 = .ok (.new 40, 3) := by decide +kernel
theorem dX11_init_55 : decode cX11_init 55 = .ok (.dup, 1) := by decide +kernel
theorem dX11_init_56 : decode cX11_init 56 = .ok (.invokespecial 42, 3) := by decide +kernel
theorem dX11_init_59 : decode cX11_init 59 = .ok (.putfield 43, 3) := by decide +kernel
theorem dX11_init_62 : decode cX11_init 62 = .ok (.aload_n 0, 1) := by decide +kernel
theorem dX11_init_63 : decode cX11_init 63 = .ok (.bipush 30, 2) := by decide +kernel
theorem dX11_init_65 : decode cX11_init 65 = .ok (.newarray .int, 2) := by decide +kernel
theorem dX11_init_67 : decode cX11_init 67 = .ok (.putfield 47, 3) := by decide +kernel
theorem dX11_init_70 : decode cX11_init 70 = .ok (.return_, 1) := by decide +kernel
theorem dX11_word_0 : decode cX11_word 0 = .ok (.ldc 51, 2) := by decide +kernel
theorem dX11_word_2 : decode cX11_word 2 = .ok (.iload_n 1, 1) := by decide +kernel
theorem dX11_word_3 : decode cX11_word 3 = .ok (.invokevirtual 53, 3) := by decide +kernel
theorem dX11_word_6 : decode cX11_word 6 = .ok (.ifCond .ge 22, 3) := by decide +kernel
theorem dX11_word_9 : decode cX11_word 9 = .ok (.ldc 59, 2) := by decide +kernel
theorem dX11_word_11 : decode cX11_word 11 = .ok (.iload_n 1, 1) := by decide +kernel
theorem dX11_word_12 : decode cX11_word 12 = .ok (.invokevirtual 53, 3) := by decide +kernel
theorem dX11_word_15 : decode cX11_word 15 = .ok (.ifCond .ge 13, 3) := by decide +kernel
theorem dX11_word_18 : decode cX11_word 18 = .ok (.new 61, 3) := by decide +kernel
theorem dX11_word_21 : decode cX11_word 21 = .ok (.dup, 1) := by decide +kernel
theorem dX11_word_22 : decode cX11_word 22 = .ok (.ldc 63, 2) := by decide +kernel
theorem dX11_word_24 : decode cX11_word 24 = .ok (.invokespecial 65, 3) := by decide +kernel
theorem dX11_word_27 : decode cX11_word 27 = .ok (.athrow, 1) := by decide +kernel
theorem dX11_word_28 : decode cX11_word 28 = .ok (.aload_n 0, 1) := by decide +kernel
theorem dX11_word_29 : decode cX11_word 29 = .ok (.getfield 14, 3) := by decide +kernel
theorem dX11_word_32 : decode cX11_word 32 = .ok (.getfield 68, 3) := by decide +kernel
theorem dX11_word_35 : decode cX11_word 35 = .ok (.invokevirtual 72, 3) := by decide +kernel
theorem dX11_word_38 : decode cX11_word 38 = .ok (.ifCond .eq 13, 3) := by decide +kernel
theorem dX11_word_41 : decode cX11_word 41 = .ok (.new 78, 3) := by decide +kernel
theorem dX11_word_44 : decode cX11_word 44 = .ok (.dup, 1) := by decide +kernel
theorem dX11_word_45 : decode cX11_word 45 = .ok (.ldc 80, 2) := by decide +kernel
theorem dX11_word_47 : decode cX11_word 47 = .ok (.invokespecial 82, 3) := by decide +kernel
theorem dX11_word_50 : decode cX11_word 50 = .ok (.athrow, 1) := by decide +kernel
theorem dX11_word_51 : decode cX11_word 51 = .ok (.aload_n 0, 1) := by decide +kernel
theorem dX11_word_52 : decode cX11_word 52 = .ok (.getfield 14, 3) := by decide +kernel
theorem dX11_word_55 : decode cX11_word 55 = .ok (.getfield 68, 3) := by decide +kernel
theorem dX11_word_58 : decode cX11_word 58 = .ok (.iconst 1, 1) := by decide +kernel
theorem dX11_word_59 : decode cX11_word 59 = .ok (.iload_n 1, 1) := by decide +kernel
theorem dX11_word_60 : decode cX11_word 60 = .ok (.invokevirtual 83, 3) := by decide +kernel
theorem dX11_word_63 : decode cX11_word 63 = .ok (.ireturn, 1) := by decide +kernel
theorem dX11_name_0 : decode cX11_name 0 = .ok (.iload_n 1, 1) := by decide +kernel
theorem dX11_name_1 : decode cX11_name 1 = .ok (.ifCond .lt 9, 3) := by decide +kernel
theorem dX11_name_4 : decode cX11_name 4 = .ok (.iload_n 1, 1) := by decide +kernel
theorem dX11_name_5 : decode cX11_name 5 = .ok (.bipush 16, 2) := by decide +kernel
theorem dX11_name_7 : decode cX11_name 7 = .ok (.if_icmp .lt 13, 3) := by decide +kernel
theorem dX11_name_10 : decode cX11_name 10 = .ok (.new 61, 3) := by decide +kernel
theorem dX11_name_13 : decode cX11_name 13 = .ok (.dup, 1) := by decide +kernel
theorem dX11_name_14 : decode cX11_name 14 = .ok (.ldc 87, 2) := by decide +kernel
theorem dX11_name_16 : decode cX11_name 16 = .ok (.invokespecial 65, 3) := by decide +kernel
theorem dX11_name_19 : decode cX11_name 19 = .ok (.athrow, 1) := by decide +kernel
theorem dX11_name_20 : decode cX11_name 20 = .ok (.aload_n 0, 1) := by decide +kernel
theorem dX11_name_21 : decode cX11_name 21 = .ok (.getfield 14, 3) := by decide +kernel
theorem dX11_name_24 : decode cX11_name 24 = .ok (.getfield 68, 3) := by decide +kernel
theorem dX11_name_27 : decode cX11_name 27 = .ok (.invokevirtual 72, 3) := by decide +kernel
theorem dX11_name_30 : decode cX11_name 30 = .ok (.ifCond .eq 13, 3) := by decide +kernel
theorem dX11_name_33 : decode cX11_name 33 = .ok (.new 78, 3) := by decide +kernel
theorem dX11_name_36 : decode cX11_name 36 = .ok (.dup, 1) := by decide +kernel
theorem dX11_name_37 : decode cX11_name 37 = .ok (.ldc 80, 2) := by decide +kernel
theorem dX11_name_39 : decode cX11_name 39 = .ok (.invokespecial 82, 3) := by decide +kernel
theorem dX11_name_42 : decode cX11_name 42 = .ok (.athrow, 1) := by decide +kernel
theorem dX11_name_43 : decode cX11_name 43 = .ok (.aload_n 0, 1) := by decide +kernel
theorem dX11_name_44 : decode cX11_name 44 = .ok (.getfield 14, 3) := by decide +kernel
theorem dX11_name_47 : decode cX11_name 47 = .ok (.getfield 68, 3) := by decide +kernel
theorem dX11_name_50 : decode cX11_name 50 = .ok (.iconst 2, 1) := by decide +kernel
theorem dX11_name_51 : decode cX11_name 51 = .ok (.iload_n 1, 1) := by decide +kernel
theorem dX11_name_52 : decode cX11_name 52 = .ok (.invokevirtual 83, 3) := by decide +kernel
theorem dX11_name_55 : decode cX11_name 55 = .ok (.ireturn, 1) := by decide +kernel
theorem dX11_number_0 : decode cX11_number 0 = .ok (.aload_n 0, 1) := by decide +kernel
theorem dX11_number_1 : decode cX11_number 1 = .ok (.getfield 14, 3) := by decide +kernel
theorem dX11_number_4 : decode cX11_number 4 = .ok (.getfield 68, 3) := by decide +kernel
theorem dX11_number_7 : decode cX11_number 7 = .ok (.invokevirtual 72, 3) := by decide +kernel
theorem dX11_number_10 : decode cX11_number 10 = .ok (.ifCond .eq 13, 3) := by decide +kernel
theorem dX11_number_13 : decode cX11_number 13 = .ok (.new 78, 3) := by decide +kernel
theorem dX11_number_16 : decode cX11_number 16 = .ok (.dup, 1) := by decide +kernel
theorem dX11_number_17 : decode cX11_number 17 = .ok (.ldc 80, 2) := by decide +kernel
theorem dX11_number_19 : decode cX11_number 19 = .ok (.invokespecial 82, 3) := by decide +kernel
theorem dX11_number_22 : decode cX11_number 22 = .ok (.athrow, 1) := by decide +kernel
theorem dX11_number_23 : decode cX11_number 23 = .ok (.aload_n 0, 1) := by decide +kernel
theorem dX11_number_24 : decode cX11_number 24 = .ok (.getfield 14, 3) := by decide +kernel
theorem dX11_number_27 : decode cX11_number 27 = .ok (.getfield 68, 3) := by decide +kernel
theorem dX11_number_30 : decode cX11_number 30 = .ok (.iconst 0, 1) := by decide +kernel
theorem dX11_number_31 : decode cX11_number 31 = .ok (.iload_n 1, 1) := by decide +kernel
theorem dX11_number_32 : decode cX11_number 32 = .ok (.invokevirtual 83, 3) := by decide +kernel
theorem dX11_number_35 : decode cX11_number 35 = .ok (.ireturn, 1) := by decide +kernel
theorem dX11_enter_0 : decode cX11_enter 0 = .ok (.aload_n 0, 1) := by decide +kernel
theorem dX11_enter_1 : decode cX11_enter 1 = .ok (.getfield 14, 3) := by decide +kernel
theorem dX11_enter_4 : decode cX11_enter 4 = .ok (.iconst 0, 1) := by decide +kernel
theorem dX11_enter_5 : decode cX11_enter 5 = .ok (.putfield 89, 3) := by decide +kernel
theorem dX11_enter_8 : decode cX11_enter 8 = .ok (.iconst 0, 1) := by decide +kernel
theorem dX11_enter_9 : decode cX11_enter 9 = .ok (.istore_n 1, 1) := by decide +kernel
theorem dX11_enter_10 : decode cX11_enter 10 = .ok (.iconst 0, 1) := by decide +kernel
theorem dX11_enter_11 : decode cX11_enter 11 = .ok (.istore_n 2, 1) := by decide +kernel
theorem dX11_enter_12 : decode cX11_enter 12 = .ok (.iload_n 2, 1) := by decide +kernel
theorem dX11_enter_13 : decode cX11_enter 13 = .ok (.bipush 40, 2) := by decide +kernel
theorem dX11_enter_15 : decode cX11_enter 15 = .ok (.if_icmp .ge 41, 3) := by decide +kernel
theorem dX11_enter_18 : decode cX11_enter 18 = .ok (.iload_n 1, 1) := by decide +kernel
theorem dX11_enter_19 : decode cX11_enter 19 = .ok (.ifCond .ne 37, 3) := by decide +kernel
theorem dX11_enter_22 : decode cX11_enter 22 = .ok (.aload_n 0, 1) := by decide +kernel
theorem dX11_enter_23 : decode cX11_enter 23 = .ok (.getfield 14, 3) := by decide +kernel
theorem dX11_enter_26 : decode cX11_enter 26 = .ok (.getfield 68, 3) := by decide +kernel
theorem dX11_enter_29 : decode cX11_enter 29 = .ok (.invokevirtual 93, 3) := by decide +kernel
theorem dX11_enter_32 : decode cX11_enter 32 = .ok (.ifCond .eq 24, 3) := by decide +kernel
theorem dX11_enter_35 : decode cX11_enter 35 = .ok (.aload_n 0, 1) := by decide +kernel
theorem dX11_enter_36 : decode cX11_enter 36 = .ok (.getfield 23, 3) := by decide +kernel
theorem dX11_enter_39 : decode cX11_enter 39 = .ok (.aload_n 0, 1) := by decide +kernel
theorem dX11_enter_40 : decode cX11_enter 40 = .ok (.getfield 23, 3) := by decide +kernel
theorem dX11_enter_43 : decode cX11_enter 43 = .ok (.invokevirtual 96, 3) := by decide +kernel
theorem dX11_enter_46 : decode cX11_enter 46 = .ok (.invokevirtual 100, 3) := by decide +kernel
theorem dX11_enter_49 : decode cX11_enter 49 = .ok (.istore_n 1, 1) := by decide +kernel
theorem dX11_enter_50 : decode cX11_enter 50 = .ok (.iinc 2 1, 3) := by decide +kernel
theorem dX11_enter_53 : decode cX11_enter 53 = .ok (.goto (-41), 3) := by decide +kernel
theorem dX11_enter_56 : decode cX11_enter 56 = .ok (.aload_n 0, 1) := by decide +kernel
theorem dX11_enter_57 : decode cX11_enter 57 = .ok (.getfield 14, 3) := by decide +kernel
theorem dX11_enter_60 : decode cX11_enter 60 = .ok (.getfield 68, 3) := by decide +kernel
theorem dX11_enter_63 : decode cX11_enter 63 = .ok (.invokevirtual 103, 3) := by decide +kernel
theorem dX11_enter_66 : decode cX11_enter 66 = .ok (.aload_n 0, 1) := by decide +kernel
theorem dX11_enter_67 : decode cX11_enter 67 = .ok (.dup, 1) := by decide +kernel
theorem dX11_enter_68 : decode cX11_enter 68 = .ok (.getfield 106, 3) := by decide +kernel
theorem dX11_enter_71 : decode cX11_enter 71 = .ok (.iconst 1, 1) := by decide +kernel
theorem dX11_enter_72 : decode cX11_enter 72 = .ok (.iadd, 1) := by decide +kernel
theorem dX11_enter_73 : decode cX11_enter 73 = .ok (.putfield 106, 3) := by decide +kernel
theorem dX11_enter_76 : decode cX11_enter 76 = .ok (.aload_n 0, 1) := by decide +kernel
theorem dX11_enter_77 : decode cX11_enter 77 = .ok (.dup, 1) := by decide +kernel
theorem dX11_enter_78 : decode cX11_enter 78 = .ok (.getfield 109, 3) := by decide +kernel
theorem dX11_enter_81 : decode cX11_enter 81 = .ok (.aload_n 0, 1) := by decide +kernel
theorem dX11_enter_82 : decode cX11_enter 82 = .ok (.getfield 14, 3) := by decide +kernel
theorem dX11_enter_85 : decode cX11_enter 85 = .ok (.getfield 89, 3) := by decide +kernel
theorem dX11_enter_88 : decode cX11_enter 88 = .ok (.i2l, 1) := by decide +kernel
theorem dX11_enter_89 : decode cX11_enter 89 = .ok (.ladd, 1) := by decide +kernel
theorem dX11_enter_90 : decode cX11_enter 90 = .ok (.putfield 109, 3) := by decide +kernel
theorem dX11_enter_93 : decode cX11_enter 93 = .ok (.aload_n 0, 1) := by decide +kernel
theorem dX11_enter_94 : decode cX11_enter 94 = .ok (.iload_n 1, 1) := by decide +kernel
theorem dX11_enter_95 : decode cX11_enter 95 = .ok (.putfield 113, 3) := by decide +kernel
theorem dX11_enter_98 : decode cX11_enter 98 = .ok (.aload_n 0, 1) := by decide +kernel
theorem dX11_enter_99 : decode cX11_enter 99 = .ok (.iconst 0, 1) := by decide +kernel
theorem dX11_enter_100 : decode cX11_enter 100 = .ok (.putfield 116, 3) := by decide +kernel
theorem dX11_enter_103 : decode cX11_enter 103 = .ok (.iload_n 1, 1) := by decide +kernel
theorem dX11_enter_104 : decode cX11_enter 104 = .ok (.ifCond .eq 35, 3) := by decide +kernel
theorem dX11_enter_107 : decode cX11_enter 107 = .ok (.aload_n 0, 1) := by decide +kernel
theorem dX11_enter_108 : decode cX11_enter 108 = .ok (.dup, 1) := by decide +kernel
theorem dX11_enter_109 : decode cX11_enter 109 = .ok (.getfield 119, 3) := by decide +kernel
theorem dX11_enter_112 : decode cX11_enter 112 = .ok (.iconst 1, 1) := by decide +kernel
theorem dX11_enter_113 : decode cX11_enter 113 = .ok (.iadd, 1) := by decide +kernel
theorem dX11_enter_114 : decode cX11_enter 114 = .ok (.putfield 119, 3) := by decide +kernel
theorem dX11_enter_117 : decode cX11_enter 117 = .ok (.aload_n 0, 1) := by decide +kernel
theorem dX11_enter_118 : decode cX11_enter 118 = .ok (.iload_n 1, 1) := by decide +kernel
theorem dX11_enter_119 : decode cX11_enter 119 = .ok (.invokevirtual 122, 3) := by decide +kernel
theorem dX11_enter_122 : decode cX11_enter 122 = .ok (.aload_n 0, 1) := by decide +kernel
theorem dX11_enter_123 : decode cX11_enter 123 = .ok (.getfield 14, 3) := by decide +kernel
theorem dX11_enter_126 : decode cX11_enter 126 = .ok (.invokevirtual 125, 3) := by decide +kernel
theorem dX11_enter_129 : decode cX11_enter 129 = .ok (.aload_n 0, 1) := by decide +kernel
theorem dX11_enter_130 : decode cX11_enter 130 = .ok (.getfield 23, 3) := by decide +kernel
theorem dX11_enter_133 : decode cX11_enter 133 = .ok (.invokevirtual 128, 3) := by decide +kernel
theorem dX11_enter_136 : decode cX11_enter 136 = .ok (.bipush 101, 2) := by decide +kernel
theorem dX11_enter_138 : decode cX11_enter 138 = .ok (.ireturn, 1) := by decide +kernel
theorem dX11_enter_139 : decode cX11_enter 139 = .ok (.aload_n 0, 1) := by decide +kernel
theorem dX11_enter_140 : decode cX11_enter 140 = .ok (.getfield 14, 3) := by decide +kernel
theorem dX11_enter_143 : decode cX11_enter 143 = .ok (.getfield 129, 3) := by decide +kernel
theorem dX11_enter_146 : decode cX11_enter 146 = .ok (.ifCond .eq 8, 3) := by decide +kernel
theorem dX11_enter_149 : decode cX11_enter 149 = .ok (.bipush 99, 2) := by decide +kernel
theorem dX11_enter_151 : decode cX11_enter 151 = .ok (.goto 5, 3) := by decide +kernel
theorem dX11_enter_154 : decode cX11_enter 154 = .ok (.bipush 111, 2) := by decide +kernel
theorem dX11_enter_156 : decode cX11_enter 156 = .ok (.ireturn, 1) := by decide +kernel
theorem dX11_error_0 : decode cX11_error 0 = .ok (.aload_n 0, 1) := by decide +kernel
theorem dX11_error_1 : decode cX11_error 1 = .ok (.getfield 113, 3) := by decide +kernel
theorem dX11_error_4 : decode cX11_error 4 = .ok (.ifCond .ne 13, 3) := by decide +kernel
theorem dX11_error_7 : decode cX11_error 7 = .ok (.new 144, 3) := by decide +kernel
theorem dX11_error_10 : decode cX11_error 10 = .ok (.dup, 1) := by decide +kernel
theorem dX11_error_11 : decode cX11_error 11 = .ok (.ldc 146, 2) := by decide +kernel
theorem dX11_error_13 : decode cX11_error 13 = .ok (.invokespecial 148, 3) := by decide +kernel
theorem dX11_error_16 : decode cX11_error 16 = .ok (.athrow, 1) := by decide +kernel
theorem dX11_error_17 : decode cX11_error 17 = .ok (.aload_n 0, 1) := by decide +kernel
theorem dX11_error_18 : decode cX11_error 18 = .ok (.getfield 113, 3) := by decide +kernel
theorem dX11_error_21 : decode cX11_error 21 = .ok (.ireturn, 1) := by decide +kernel
theorem dX11_trace_0 : decode cX11_trace 0 = .ok (.aload_n 0, 1) := by decide +kernel
theorem dX11_trace_1 : decode cX11_trace 1 = .ok (.getfield 116, 3) := by decide +kernel
theorem dX11_trace_4 : decode cX11_trace 4 = .ok (.ireturn, 1) := by decide +kernel
theorem dX11_traceAt_0 : decode cX11_traceAt 0 = .ok (.iload_n 1, 1) := by decide +kernel
theorem dX11_traceAt_1 : decode cX11_traceAt 1 = .ok (.ifCond .lt 11, 3) := by decide +kernel
theorem dX11_traceAt_4 : decode cX11_traceAt 4 = .ok (.iload_n 1, 1) := by decide +kernel
theorem dX11_traceAt_5 : decode cX11_traceAt 5 = .ok (.aload_n 0, 1) := by decide +kernel
theorem dX11_traceAt_6 : decode cX11_traceAt 6 = .ok (.getfield 116, 3) := by decide +kernel
theorem dX11_traceAt_9 : decode cX11_traceAt 9 = .ok (.if_icmp .lt 13, 3) := by decide +kernel
theorem dX11_traceAt_12 : decode cX11_traceAt 12 = .ok (.new 149, 3) := by decide +kernel
theorem dX11_traceAt_15 : decode cX11_traceAt 15 = .ok (.dup, 1) := by decide +kernel
theorem dX11_traceAt_16 : decode cX11_traceAt 16 = .ok (.ldc 151, 2) := by decide +kernel
theorem dX11_traceAt_18 : decode cX11_traceAt 18 = .ok (.invokespecial 153, 3) := by decide +kernel
theorem dX11_traceAt_21 : decode cX11_traceAt 21 = .ok (.athrow, 1) := by decide +kernel
theorem dX11_traceAt_22 : decode cX11_traceAt 22 = .ok (.aload_n 0, 1) := by decide +kernel
theorem dX11_traceAt_23 : decode cX11_traceAt 23 = .ok (.getfield 47, 3) := by decide +kernel
theorem dX11_traceAt_26 : decode cX11_traceAt 26 = .ok (.iload_n 1, 1) := by decide +kernel
theorem dX11_traceAt_27 : decode cX11_traceAt 27 = .ok (.iaload, 1) := by decide +kernel
theorem dX11_traceAt_28 : decode cX11_traceAt 28 = .ok (.ireturn, 1) := by decide +kernel
theorem dX11_depth_0 : decode cX11_depth 0 = .ok (.aload_n 0, 1) := by decide +kernel
theorem dX11_depth_1 : decode cX11_depth 1 = .ok (.getfield 14, 3) := by decide +kernel
theorem dX11_depth_4 : decode cX11_depth 4 = .ok (.getfield 154, 3) := by decide +kernel
theorem dX11_depth_7 : decode cX11_depth 7 = .ok (.getfield 158, 3) := by decide +kernel
theorem dX11_depth_10 : decode cX11_depth 10 = .ok (.ireturn, 1) := by decide +kernel
theorem dX11_at_0 : decode cX11_at 0 = .ok (.iload_n 1, 1) := by decide +kernel
theorem dX11_at_1 : decode cX11_at 1 = .ok (.ifCond .lt 17, 3) := by decide +kernel
theorem dX11_at_4 : decode cX11_at 4 = .ok (.iload_n 1, 1) := by decide +kernel
theorem dX11_at_5 : decode cX11_at 5 = .ok (.aload_n 0, 1) := by decide +kernel
theorem dX11_at_6 : decode cX11_at 6 = .ok (.getfield 14, 3) := by decide +kernel
theorem dX11_at_9 : decode cX11_at 9 = .ok (.getfield 154, 3) := by decide +kernel
theorem dX11_at_12 : decode cX11_at 12 = .ok (.getfield 158, 3) := by decide +kernel
theorem dX11_at_15 : decode cX11_at 15 = .ok (.if_icmp .lt 13, 3) := by decide +kernel
theorem dX11_at_18 : decode cX11_at 18 = .ok (.new 149, 3) := by decide +kernel
theorem dX11_at_21 : decode cX11_at 21 = .ok (.dup, 1) := by decide +kernel
theorem dX11_at_22 : decode cX11_at 22 = .ok (.ldc 163, 2) := by decide +kernel
theorem dX11_at_24 : decode cX11_at 24 = .ok (.invokespecial 153, 3) := by decide +kernel
theorem dX11_at_27 : decode cX11_at 27 = .ok (.athrow, 1) := by decide +kernel
theorem dX11_at_28 : decode cX11_at 28 = .ok (.aload_n 0, 1) := by decide +kernel
theorem dX11_at_29 : decode cX11_at 29 = .ok (.getfield 14, 3) := by decide +kernel
theorem dX11_at_32 : decode cX11_at 32 = .ok (.getfield 154, 3) := by decide +kernel
theorem dX11_at_35 : decode cX11_at 35 = .ok (.iload_n 1, 1) := by decide +kernel
theorem dX11_at_36 : decode cX11_at 36 = .ok (.invokevirtual 165, 3) := by decide +kernel
theorem dX11_at_39 : decode cX11_at 39 = .ok (.ireturn, 1) := by decide +kernel
theorem dX11_second_0 : decode cX11_second 0 = .ok (.aload_n 0, 1) := by decide +kernel
theorem dX11_second_1 : decode cX11_second 1 = .ok (.getfield 14, 3) := by decide +kernel
theorem dX11_second_4 : decode cX11_second 4 = .ok (.getfield 168, 3) := by decide +kernel
theorem dX11_second_7 : decode cX11_second 7 = .ok (.getfield 158, 3) := by decide +kernel
theorem dX11_second_10 : decode cX11_second 10 = .ok (.ireturn, 1) := by decide +kernel
theorem dX11_here_0 : decode cX11_here 0 = .ok (.aload_n 0, 1) := by decide +kernel
theorem dX11_here_1 : decode cX11_here 1 = .ok (.getfield 14, 3) := by decide +kernel
theorem dX11_here_4 : decode cX11_here 4 = .ok (.getfield 171, 3) := by decide +kernel
theorem dX11_here_7 : decode cX11_here 7 = .ok (.ireturn, 1) := by decide +kernel
theorem dX11_cell_0 : decode cX11_cell 0 = .ok (.iload_n 1, 1) := by decide +kernel
theorem dX11_cell_1 : decode cX11_cell 1 = .ok (.ifCond .lt 9, 3) := by decide +kernel
theorem dX11_cell_4 : decode cX11_cell 4 = .ok (.iload_n 1, 1) := by decide +kernel
theorem dX11_cell_5 : decode cX11_cell 5 = .ok (.bipush 100, 2) := by decide +kernel
theorem dX11_cell_7 : decode cX11_cell 7 = .ok (.if_icmp .lt 13, 3) := by decide +kernel
theorem dX11_cell_10 : decode cX11_cell 10 = .ok (.new 149, 3) := by decide +kernel
theorem dX11_cell_13 : decode cX11_cell 13 = .ok (.dup, 1) := by decide +kernel
theorem dX11_cell_14 : decode cX11_cell 14 = .ok (.ldc 174, 2) := by decide +kernel
theorem dX11_cell_16 : decode cX11_cell 16 = .ok (.invokespecial 153, 3) := by decide +kernel
theorem dX11_cell_19 : decode cX11_cell 19 = .ok (.athrow, 1) := by decide +kernel
theorem dX11_cell_20 : decode cX11_cell 20 = .ok (.aload_n 0, 1) := by decide +kernel
theorem dX11_cell_21 : decode cX11_cell 21 = .ok (.getfield 14, 3) := by decide +kernel
theorem dX11_cell_24 : decode cX11_cell 24 = .ok (.getfield 176, 3) := by decide +kernel
theorem dX11_cell_27 : decode cX11_cell 27 = .ok (.iload_n 1, 1) := by decide +kernel
theorem dX11_cell_28 : decode cX11_cell 28 = .ok (.iaload, 1) := by decide +kernel
theorem dX11_cell_29 : decode cX11_cell 29 = .ok (.ireturn, 1) := by decide +kernel
theorem dX11_outs_0 : decode cX11_outs 0 = .ok (.aload_n 0, 1) := by decide +kernel
theorem dX11_outs_1 : decode cX11_outs 1 = .ok (.getfield 14, 3) := by decide +kernel
theorem dX11_outs_4 : decode cX11_outs 4 = .ok (.getfield 179, 3) := by decide +kernel
theorem dX11_outs_7 : decode cX11_outs 7 = .ok (.getfield 183, 3) := by decide +kernel
theorem dX11_outs_10 : decode cX11_outs 10 = .ok (.ireturn, 1) := by decide +kernel
theorem dX11_outAt_0 : decode cX11_outAt 0 = .ok (.iload_n 1, 1) := by decide +kernel
theorem dX11_outAt_1 : decode cX11_outAt 1 = .ok (.ifCond .lt 17, 3) := by decide +kernel
theorem dX11_outAt_4 : decode cX11_outAt 4 = .ok (.iload_n 1, 1) := by decide +kernel
theorem dX11_outAt_5 : decode cX11_outAt 5 = .ok (.aload_n 0, 1) := by decide +kernel
theorem dX11_outAt_6 : decode cX11_outAt 6 = .ok (.getfield 14, 3) := by decide +kernel
theorem dX11_outAt_9 : decode cX11_outAt 9 = .ok (.getfield 179, 3) := by decide +kernel
theorem dX11_outAt_12 : decode cX11_outAt 12 = .ok (.getfield 183, 3) := by decide +kernel
theorem dX11_outAt_15 : decode cX11_outAt 15 = .ok (.if_icmp .lt 13, 3) := by decide +kernel
theorem dX11_outAt_18 : decode cX11_outAt 18 = .ok (.new 149, 3) := by decide +kernel
theorem dX11_outAt_21 : decode cX11_outAt 21 = .ok (.dup, 1) := by decide +kernel
theorem dX11_outAt_22 : decode cX11_outAt 22 = .ok (.ldc 188, 2) := by decide +kernel
theorem dX11_outAt_24 : decode cX11_outAt 24 = .ok (.invokespecial 153, 3) := by decide +kernel
theorem dX11_outAt_27 : decode cX11_outAt 27 = .ok (.athrow, 1) := by decide +kernel
theorem dX11_outAt_28 : decode cX11_outAt 28 = .ok (.aload_n 0, 1) := by decide +kernel
theorem dX11_outAt_29 : decode cX11_outAt 29 = .ok (.getfield 14, 3) := by decide +kernel
theorem dX11_outAt_32 : decode cX11_outAt 32 = .ok (.getfield 179, 3) := by decide +kernel
theorem dX11_outAt_35 : decode cX11_outAt 35 = .ok (.getfield 190, 3) := by decide +kernel
theorem dX11_outAt_38 : decode cX11_outAt 38 = .ok (.iload_n 1, 1) := by decide +kernel
theorem dX11_outAt_39 : decode cX11_outAt 39 = .ok (.iaload, 1) := by decide +kernel
theorem dX11_outAt_40 : decode cX11_outAt 40 = .ok (.ireturn, 1) := by decide +kernel
theorem dX11_entries_0 : decode cX11_entries 0 = .ok (.aload_n 0, 1) := by decide +kernel
theorem dX11_entries_1 : decode cX11_entries 1 = .ok (.getfield 14, 3) := by decide +kernel
theorem dX11_entries_4 : decode cX11_entries 4 = .ok (.getfield 29, 3) := by decide +kernel
theorem dX11_entries_7 : decode cX11_entries 7 = .ok (.getfield 193, 3) := by decide +kernel
theorem dX11_entries_10 : decode cX11_entries 10 = .ok (.ireturn, 1) := by decide +kernel
theorem dX11_nameOf_0 : decode cX11_nameOf 0 = .ok (.aload_n 0, 1) := by decide +kernel
theorem dX11_nameOf_1 : decode cX11_nameOf 1 = .ok (.getfield 14, 3) := by decide +kernel
theorem dX11_nameOf_4 : decode cX11_nameOf 4 = .ok (.getfield 29, 3) := by decide +kernel
theorem dX11_nameOf_7 : decode cX11_nameOf 7 = .ok (.iload_n 1, 1) := by decide +kernel
theorem dX11_nameOf_8 : decode cX11_nameOf 8 = .ok (.invokevirtual 196, 3) := by decide +kernel
theorem dX11_nameOf_11 : decode cX11_nameOf 11 = .ok (.ifCond .ne 13, 3) := by decide +kernel
theorem dX11_nameOf_14 : decode cX11_nameOf 14 = .ok (.new 149, 3) := by decide +kernel
theorem dX11_nameOf_17 : decode cX11_nameOf 17 = .ok (.dup, 1) := by decide +kernel
theorem dX11_nameOf_18 : decode cX11_nameOf 18 = .ok (.ldc 200, 2) := by decide +kernel
theorem dX11_nameOf_20 : decode cX11_nameOf 20 = .ok (.invokespecial 153, 3) := by decide +kernel
theorem dX11_nameOf_23 : decode cX11_nameOf 23 = .ok (.athrow, 1) := by decide +kernel
theorem dX11_nameOf_24 : decode cX11_nameOf 24 = .ok (.aload_n 0, 1) := by decide +kernel
theorem dX11_nameOf_25 : decode cX11_nameOf 25 = .ok (.getfield 14, 3) := by decide +kernel
theorem dX11_nameOf_28 : decode cX11_nameOf 28 = .ok (.getfield 29, 3) := by decide +kernel
theorem dX11_nameOf_31 : decode cX11_nameOf 31 = .ok (.getfield 202, 3) := by decide +kernel
theorem dX11_nameOf_34 : decode cX11_nameOf 34 = .ok (.iload_n 1, 1) := by decide +kernel
theorem dX11_nameOf_35 : decode cX11_nameOf 35 = .ok (.iaload, 1) := by decide +kernel
theorem dX11_nameOf_36 : decode cX11_nameOf 36 = .ok (.ireturn, 1) := by decide +kernel
theorem dX11_kindOf_0 : decode cX11_kindOf 0 = .ok (.aload_n 0, 1) := by decide +kernel
theorem dX11_kindOf_1 : decode cX11_kindOf 1 = .ok (.getfield 14, 3) := by decide +kernel
theorem dX11_kindOf_4 : decode cX11_kindOf 4 = .ok (.getfield 29, 3) := by decide +kernel
theorem dX11_kindOf_7 : decode cX11_kindOf 7 = .ok (.iload_n 1, 1) := by decide +kernel
theorem dX11_kindOf_8 : decode cX11_kindOf 8 = .ok (.invokevirtual 196, 3) := by decide +kernel
theorem dX11_kindOf_11 : decode cX11_kindOf 11 = .ok (.ifCond .ne 13, 3) := by decide +kernel
theorem dX11_kindOf_14 : decode cX11_kindOf 14 = .ok (.new 149, 3) := by decide +kernel
theorem dX11_kindOf_17 : decode cX11_kindOf 17 = .ok (.dup, 1) := by decide +kernel
theorem dX11_kindOf_18 : decode cX11_kindOf 18 = .ok (.ldc 200, 2) := by decide +kernel
theorem dX11_kindOf_20 : decode cX11_kindOf 20 = .ok (.invokespecial 153, 3) := by decide +kernel
theorem dX11_kindOf_23 : decode cX11_kindOf 23 = .ok (.athrow, 1) := by decide +kernel
theorem dX11_kindOf_24 : decode cX11_kindOf 24 = .ok (.aload_n 0, 1) := by decide +kernel
theorem dX11_kindOf_25 : decode cX11_kindOf 25 = .ok (.getfield 14, 3) := by decide +kernel
theorem dX11_kindOf_28 : decode cX11_kindOf 28 = .ok (.getfield 29, 3) := by decide +kernel
theorem dX11_kindOf_31 : decode cX11_kindOf 31 = .ok (.getfield 205, 3) := by decide +kernel
theorem dX11_kindOf_34 : decode cX11_kindOf 34 = .ok (.iload_n 1, 1) := by decide +kernel
theorem dX11_kindOf_35 : decode cX11_kindOf 35 = .ok (.iaload, 1) := by decide +kernel
theorem dX11_kindOf_36 : decode cX11_kindOf 36 = .ok (.i2c, 1) := by decide +kernel
theorem dX11_kindOf_37 : decode cX11_kindOf 37 = .ok (.ireturn, 1) := by decide +kernel
theorem dX11_isImmediate_0 : decode cX11_isImmediate 0 = .ok (.aload_n 0, 1) := by decide +kernel
theorem dX11_isImmediate_1 : decode cX11_isImmediate 1 = .ok (.getfield 14, 3) := by decide +kernel
theorem dX11_isImmediate_4 : decode cX11_isImmediate 4 = .ok (.getfield 29, 3) := by decide +kernel
theorem dX11_isImmediate_7 : decode cX11_isImmediate 7 = .ok (.iload_n 1, 1) := by decide +kernel
theorem dX11_isImmediate_8 : decode cX11_isImmediate 8 = .ok (.invokevirtual 196, 3) := by decide +kernel
theorem dX11_isImmediate_11 : decode cX11_isImmediate 11 = .ok (.ifCond .ne 13, 3) := by decide +kernel
theorem dX11_isImmediate_14 : decode cX11_isImmediate 14 = .ok (.new 149, 3) := by decide +kernel
theorem dX11_isImmediate_17 : decode cX11_isImmediate 17 = .ok (.dup, 1) := by decide +kernel
theorem dX11_isImmediate_18 : decode cX11_isImmediate 18 = .ok (.ldc 200, 2) := by decide +kernel
theorem dX11_isImmediate_20 : decode cX11_isImmediate 20 = .ok (.invokespecial 153, 3) := by decide +kernel
theorem dX11_isImmediate_23 : decode cX11_isImmediate 23 = .ok (.athrow, 1) := by decide +kernel
theorem dX11_isImmediate_24 : decode cX11_isImmediate 24 = .ok (.aload_n 0, 1) := by decide +kernel
theorem dX11_isImmediate_25 : decode cX11_isImmediate 25 = .ok (.getfield 14, 3) := by decide +kernel
theorem dX11_isImmediate_28 : decode cX11_isImmediate 28 = .ok (.getfield 29, 3) := by decide +kernel
theorem dX11_isImmediate_31 : decode cX11_isImmediate 31 = .ok (.getfield 208, 3) := by decide +kernel
theorem dX11_isImmediate_34 : decode cX11_isImmediate 34 = .ok (.iload_n 1, 1) := by decide +kernel
theorem dX11_isImmediate_35 : decode cX11_isImmediate 35 = .ok (.baload, 1) := by decide +kernel
theorem dX11_isImmediate_36 : decode cX11_isImmediate 36 = .ok (.ireturn, 1) := by decide +kernel
theorem dX11_vocabularyOf_0 : decode cX11_vocabularyOf 0 = .ok (.aload_n 0, 1) := by decide +kernel
theorem dX11_vocabularyOf_1 : decode cX11_vocabularyOf 1 = .ok (.getfield 14, 3) := by decide +kernel
theorem dX11_vocabularyOf_4 : decode cX11_vocabularyOf 4 = .ok (.getfield 29, 3) := by decide +kernel
theorem dX11_vocabularyOf_7 : decode cX11_vocabularyOf 7 = .ok (.iload_n 1, 1) := by decide +kernel
theorem dX11_vocabularyOf_8 : decode cX11_vocabularyOf 8 = .ok (.invokevirtual 196, 3) := by decide +kernel
theorem dX11_vocabularyOf_11 : decode cX11_vocabularyOf 11 = .ok (.ifCond .ne 13, 3) := by decide +kernel
theorem dX11_vocabularyOf_14 : decode cX11_vocabularyOf 14 = .ok (.new 149, 3) := by decide +kernel
theorem dX11_vocabularyOf_17 : decode cX11_vocabularyOf 17 = .ok (.dup, 1) := by decide +kernel
theorem dX11_vocabularyOf_18 : decode cX11_vocabularyOf 18 = .ok (.ldc 200, 2) := by decide +kernel
theorem dX11_vocabularyOf_20 : decode cX11_vocabularyOf 20 = .ok (.invokespecial 153, 3) := by decide +kernel
theorem dX11_vocabularyOf_23 : decode cX11_vocabularyOf 23 = .ok (.athrow, 1) := by decide +kernel
theorem dX11_vocabularyOf_24 : decode cX11_vocabularyOf 24 = .ok (.aload_n 0, 1) := by decide +kernel
theorem dX11_vocabularyOf_25 : decode cX11_vocabularyOf 25 = .ok (.getfield 14, 3) := by decide +kernel
theorem dX11_vocabularyOf_28 : decode cX11_vocabularyOf 28 = .ok (.getfield 29, 3) := by decide +kernel
theorem dX11_vocabularyOf_31 : decode cX11_vocabularyOf 31 = .ok (.getfield 212, 3) := by decide +kernel
theorem dX11_vocabularyOf_34 : decode cX11_vocabularyOf 34 = .ok (.iload_n 1, 1) := by decide +kernel
theorem dX11_vocabularyOf_35 : decode cX11_vocabularyOf 35 = .ok (.iaload, 1) := by decide +kernel
theorem dX11_vocabularyOf_36 : decode cX11_vocabularyOf 36 = .ok (.ireturn, 1) := by decide +kernel
theorem dX11_find_0 : decode cX11_find 0 = .ok (.iload_n 1, 1) := by decide +kernel
theorem dX11_find_1 : decode cX11_find 1 = .ok (.ifCond .lt 9, 3) := by decide +kernel
theorem dX11_find_4 : decode cX11_find 4 = .ok (.iload_n 1, 1) := by decide +kernel
theorem dX11_find_5 : decode cX11_find 5 = .ok (.bipush 16, 2) := by decide +kernel
theorem dX11_find_7 : decode cX11_find 7 = .ok (.if_icmp .lt 13, 3) := by decide +kernel
theorem dX11_find_10 : decode cX11_find 10 = .ok (.new 61, 3) := by decide +kernel
theorem dX11_find_13 : decode cX11_find 13 = .ok (.dup, 1) := by decide +kernel
theorem dX11_find_14 : decode cX11_find 14 = .ok (.ldc 87, 2) := by decide +kernel
theorem dX11_find_16 : decode cX11_find 16 = .ok (.invokespecial 65, 3) := by decide +kernel
theorem dX11_find_19 : decode cX11_find 19 = .ok (.athrow, 1) := by decide +kernel
theorem dX11_find_20 : decode cX11_find 20 = .ok (.aload_n 0, 1) := by decide +kernel
theorem dX11_find_21 : decode cX11_find 21 = .ok (.getfield 14, 3) := by decide +kernel
theorem dX11_find_24 : decode cX11_find 24 = .ok (.getfield 29, 3) := by decide +kernel
theorem dX11_find_27 : decode cX11_find 27 = .ok (.iload_n 1, 1) := by decide +kernel
theorem dX11_find_28 : decode cX11_find 28 = .ok (.invokevirtual 215, 3) := by decide +kernel
theorem dX11_find_31 : decode cX11_find 31 = .ok (.istore_n 2, 1) := by decide +kernel
theorem dX11_find_32 : decode cX11_find 32 = .ok (.iload_n 2, 1) := by decide +kernel
theorem dX11_find_33 : decode cX11_find 33 = .ok (.iconst (-1), 1) := by decide +kernel
theorem dX11_find_34 : decode cX11_find 34 = .ok (.if_icmp .ne 13, 3) := by decide +kernel
theorem dX11_find_37 : decode cX11_find 37 = .ok (.new 144, 3) := by decide +kernel
theorem dX11_find_40 : decode cX11_find 40 = .ok (.dup, 1) := by decide +kernel
theorem dX11_find_41 : decode cX11_find 41 = .ok (.ldc 218, 2) := by decide +kernel
theorem dX11_find_43 : decode cX11_find 43 = .ok (.invokespecial 148, 3) := by decide +kernel
theorem dX11_find_46 : decode cX11_find 46 = .ok (.athrow, 1) := by decide +kernel
theorem dX11_find_47 : decode cX11_find 47 = .ok (.iload_n 2, 1) := by decide +kernel
theorem dX11_find_48 : decode cX11_find 48 = .ok (.ireturn, 1) := by decide +kernel
theorem dX11_ops_0 : decode cX11_ops 0 = .ok (.aload_n 0, 1) := by decide +kernel
theorem dX11_ops_1 : decode cX11_ops 1 = .ok (.getfield 14, 3) := by decide +kernel
theorem dX11_ops_4 : decode cX11_ops 4 = .ok (.getfield 29, 3) := by decide +kernel
theorem dX11_ops_7 : decode cX11_ops 7 = .ok (.iload_n 1, 1) := by decide +kernel
theorem dX11_ops_8 : decode cX11_ops 8 = .ok (.invokevirtual 196, 3) := by decide +kernel
theorem dX11_ops_11 : decode cX11_ops 11 = .ok (.ifCond .ne 13, 3) := by decide +kernel
theorem dX11_ops_14 : decode cX11_ops 14 = .ok (.new 149, 3) := by decide +kernel
theorem dX11_ops_17 : decode cX11_ops 17 = .ok (.dup, 1) := by decide +kernel
theorem dX11_ops_18 : decode cX11_ops 18 = .ok (.ldc 200, 2) := by decide +kernel
theorem dX11_ops_20 : decode cX11_ops 20 = .ok (.invokespecial 153, 3) := by decide +kernel
theorem dX11_ops_23 : decode cX11_ops 23 = .ok (.athrow, 1) := by decide +kernel
theorem dX11_ops_24 : decode cX11_ops 24 = .ok (.aload_n 0, 1) := by decide +kernel
theorem dX11_ops_25 : decode cX11_ops 25 = .ok (.getfield 14, 3) := by decide +kernel
theorem dX11_ops_28 : decode cX11_ops 28 = .ok (.getfield 29, 3) := by decide +kernel
theorem dX11_ops_31 : decode cX11_ops 31 = .ok (.getfield 220, 3) := by decide +kernel
theorem dX11_ops_34 : decode cX11_ops 34 = .ok (.iload_n 1, 1) := by decide +kernel
theorem dX11_ops_35 : decode cX11_ops 35 = .ok (.iaload, 1) := by decide +kernel
theorem dX11_ops_36 : decode cX11_ops 36 = .ok (.ireturn, 1) := by decide +kernel
theorem dX11_opAt_0 : decode cX11_opAt 0 = .ok (.aload_n 0, 1) := by decide +kernel
theorem dX11_opAt_1 : decode cX11_opAt 1 = .ok (.getfield 14, 3) := by decide +kernel
theorem dX11_opAt_4 : decode cX11_opAt 4 = .ok (.getfield 29, 3) := by decide +kernel
theorem dX11_opAt_7 : decode cX11_opAt 7 = .ok (.iload_n 1, 1) := by decide +kernel
theorem dX11_opAt_8 : decode cX11_opAt 8 = .ok (.iload_n 2, 1) := by decide +kernel
theorem dX11_opAt_9 : decode cX11_opAt 9 = .ok (.invokevirtual 223, 3) := by decide +kernel
theorem dX11_opAt_12 : decode cX11_opAt 12 = .ok (.ifCond .ne 13, 3) := by decide +kernel
theorem dX11_opAt_15 : decode cX11_opAt 15 = .ok (.new 149, 3) := by decide +kernel
theorem dX11_opAt_18 : decode cX11_opAt 18 = .ok (.dup, 1) := by decide +kernel
theorem dX11_opAt_19 : decode cX11_opAt 19 = .ok (.ldc 227, 2) := by decide +kernel
theorem dX11_opAt_21 : decode cX11_opAt 21 = .ok (.invokespecial 153, 3) := by decide +kernel
theorem dX11_opAt_24 : decode cX11_opAt 24 = .ok (.athrow, 1) := by decide +kernel
theorem dX11_opAt_25 : decode cX11_opAt 25 = .ok (.aload_n 0, 1) := by decide +kernel
theorem dX11_opAt_26 : decode cX11_opAt 26 = .ok (.getfield 14, 3) := by decide +kernel
theorem dX11_opAt_29 : decode cX11_opAt 29 = .ok (.getfield 29, 3) := by decide +kernel
theorem dX11_opAt_32 : decode cX11_opAt 32 = .ok (.iload_n 1, 1) := by decide +kernel
theorem dX11_opAt_33 : decode cX11_opAt 33 = .ok (.iload_n 2, 1) := by decide +kernel
theorem dX11_opAt_34 : decode cX11_opAt 34 = .ok (.invokevirtual 229, 3) := by decide +kernel
theorem dX11_opAt_37 : decode cX11_opAt 37 = .ok (.ireturn, 1) := by decide +kernel
theorem dX11_opNumber_0 : decode cX11_opNumber 0 = .ok (.aload_n 0, 1) := by decide +kernel
theorem dX11_opNumber_1 : decode cX11_opNumber 1 = .ok (.getfield 14, 3) := by decide +kernel
theorem dX11_opNumber_4 : decode cX11_opNumber 4 = .ok (.getfield 29, 3) := by decide +kernel
theorem dX11_opNumber_7 : decode cX11_opNumber 7 = .ok (.iload_n 1, 1) := by decide +kernel
theorem dX11_opNumber_8 : decode cX11_opNumber 8 = .ok (.iload_n 2, 1) := by decide +kernel
theorem dX11_opNumber_9 : decode cX11_opNumber 9 = .ok (.invokevirtual 223, 3) := by decide +kernel
theorem dX11_opNumber_12 : decode cX11_opNumber 12 = .ok (.ifCond .ne 13, 3) := by decide +kernel
theorem dX11_opNumber_15 : decode cX11_opNumber 15 = .ok (.new 149, 3) := by decide +kernel
theorem dX11_opNumber_18 : decode cX11_opNumber 18 = .ok (.dup, 1) := by decide +kernel
theorem dX11_opNumber_19 : decode cX11_opNumber 19 = .ok (.ldc 227, 2) := by decide +kernel
theorem dX11_opNumber_21 : decode cX11_opNumber 21 = .ok (.invokespecial 153, 3) := by decide +kernel
theorem dX11_opNumber_24 : decode cX11_opNumber 24 = .ok (.athrow, 1) := by decide +kernel
theorem dX11_opNumber_25 : decode cX11_opNumber 25 = .ok (.aload_n 0, 1) := by decide +kernel
theorem dX11_opNumber_26 : decode cX11_opNumber 26 = .ok (.getfield 14, 3) := by decide +kernel
theorem dX11_opNumber_29 : decode cX11_opNumber 29 = .ok (.getfield 29, 3) := by decide +kernel
theorem dX11_opNumber_32 : decode cX11_opNumber 32 = .ok (.iload_n 1, 1) := by decide +kernel
theorem dX11_opNumber_33 : decode cX11_opNumber 33 = .ok (.iload_n 2, 1) := by decide +kernel
theorem dX11_opNumber_34 : decode cX11_opNumber 34 = .ok (.invokevirtual 233, 3) := by decide +kernel
theorem dX11_opNumber_37 : decode cX11_opNumber 37 = .ok (.ireturn, 1) := by decide +kernel
theorem dX11_effect_0 : decode cX11_effect 0 = .ok (.aload_n 0, 1) := by decide +kernel
theorem dX11_effect_1 : decode cX11_effect 1 = .ok (.getfield 14, 3) := by decide +kernel
theorem dX11_effect_4 : decode cX11_effect 4 = .ok (.getfield 29, 3) := by decide +kernel
theorem dX11_effect_7 : decode cX11_effect 7 = .ok (.iload_n 1, 1) := by decide +kernel
theorem dX11_effect_8 : decode cX11_effect 8 = .ok (.invokevirtual 196, 3) := by decide +kernel
theorem dX11_effect_11 : decode cX11_effect 11 = .ok (.ifCond .ne 13, 3) := by decide +kernel
theorem dX11_effect_14 : decode cX11_effect 14 = .ok (.new 149, 3) := by decide +kernel
theorem dX11_effect_17 : decode cX11_effect 17 = .ok (.dup, 1) := by decide +kernel
theorem dX11_effect_18 : decode cX11_effect 18 = .ok (.ldc 200, 2) := by decide +kernel
theorem dX11_effect_20 : decode cX11_effect 20 = .ok (.invokespecial 153, 3) := by decide +kernel
theorem dX11_effect_23 : decode cX11_effect 23 = .ok (.athrow, 1) := by decide +kernel
theorem dX11_effect_24 : decode cX11_effect 24 = .ok (.aload_n 0, 1) := by decide +kernel
theorem dX11_effect_25 : decode cX11_effect 25 = .ok (.getfield 36, 3) := by decide +kernel
theorem dX11_effect_28 : decode cX11_effect 28 = .ok (.iload_n 1, 1) := by decide +kernel
theorem dX11_effect_29 : decode cX11_effect 29 = .ok (.invokevirtual 236, 3) := by decide +kernel
theorem dX11_effect_32 : decode cX11_effect 32 = .ok (.aload_n 0, 1) := by decide +kernel
theorem dX11_effect_33 : decode cX11_effect 33 = .ok (.getfield 36, 3) := by decide +kernel
theorem dX11_effect_36 : decode cX11_effect 36 = .ok (.getfield 239, 3) := by decide +kernel
theorem dX11_effect_39 : decode cX11_effect 39 = .ok (.iload_n 1, 1) := by decide +kernel
theorem dX11_effect_40 : decode cX11_effect 40 = .ok (.baload, 1) := by decide +kernel
theorem dX11_effect_41 : decode cX11_effect 41 = .ok (.ifCond .ne 13, 3) := by decide +kernel
theorem dX11_effect_44 : decode cX11_effect 44 = .ok (.new 242, 3) := by decide +kernel
theorem dX11_effect_47 : decode cX11_effect 47 = .ok (.dup, 1) := by decide +kernel
theorem dX11_effect_48 : decode cX11_effect 48 = .ok (.ldc 244, 2) := by decide +kernel
theorem dX11_effect_50 : decode cX11_effect 50 = .ok (.invokespecial 246, 3) := by decide +kernel
theorem dX11_effect_53 : decode cX11_effect 53 = .ok (.athrow, 1) := by decide +kernel
theorem dX11_effect_54 : decode cX11_effect 54 = .ok (.aload_n 0, 1) := by decide +kernel
theorem dX11_effect_55 : decode cX11_effect 55 = .ok (.getfield 36, 3) := by decide +kernel
theorem dX11_effect_58 : decode cX11_effect 58 = .ok (.iload_n 1, 1) := by decide +kernel
theorem dX11_effect_59 : decode cX11_effect 59 = .ok (.invokevirtual 247, 3) := by decide +kernel
theorem dX11_effect_62 : decode cX11_effect 62 = .ok (.ireturn, 1) := by decide +kernel
theorem dX11_isMaking_0 : decode cX11_isMaking 0 = .ok (.aload_n 0, 1) := by decide +kernel
theorem dX11_isMaking_1 : decode cX11_isMaking 1 = .ok (.getfield 14, 3) := by decide +kernel
theorem dX11_isMaking_4 : decode cX11_isMaking 4 = .ok (.getfield 250, 3) := by decide +kernel
theorem dX11_isMaking_7 : decode cX11_isMaking 7 = .ok (.getfield 254, 3) := by decide +kernel
theorem dX11_isMaking_10 : decode cX11_isMaking 10 = .ok (.ireturn, 1) := by decide +kernel
theorem dX11_steps_0 : decode cX11_steps 0 = .ok (.aload_n 0, 1) := by decide +kernel
theorem dX11_steps_1 : decode cX11_steps 1 = .ok (.getfield 109, 3) := by decide +kernel
theorem dX11_steps_4 : decode cX11_steps 4 = .ok (.lreturn, 1) := by decide +kernel
theorem dX11_lines_0 : decode cX11_lines 0 = .ok (.aload_n 0, 1) := by decide +kernel
theorem dX11_lines_1 : decode cX11_lines 1 = .ok (.getfield 106, 3) := by decide +kernel
theorem dX11_lines_4 : decode cX11_lines 4 = .ok (.ireturn, 1) := by decide +kernel
theorem dX11_errorShare_0 : decode cX11_errorShare 0 = .ok (.aload_n 0, 1) := by decide +kernel
theorem dX11_errorShare_1 : decode cX11_errorShare 1 = .ok (.getfield 106, 3) := by decide +kernel
theorem dX11_errorShare_4 : decode cX11_errorShare 4 = .ok (.ifCond .ne 14, 3) := by decide +kernel
theorem dX11_errorShare_7 : decode cX11_errorShare 7 = .ok (.new 259, 3) := by decide +kernel
theorem dX11_errorShare_10 : decode cX11_errorShare 10 = .ok (.dup, 1) := by decide +kernel
theorem dX11_errorShare_11 : decode cX11_errorShare 11 = .ok (.ldc_w 261, 3) := by decide +kernel
theorem dX11_errorShare_14 : decode cX11_errorShare 14 = .ok (.invokespecial 263, 3) := by decide +kernel
theorem dX11_errorShare_17 : decode cX11_errorShare 17 = .ok (.athrow, 1) := by decide +kernel
theorem dX11_errorShare_18 : decode cX11_errorShare 18 = .ok (.aload_n 0, 1) := by decide +kernel
theorem dX11_errorShare_19 : decode cX11_errorShare 19 = .ok (.getfield 119, 3) := by decide +kernel
theorem dX11_errorShare_22 : decode cX11_errorShare 22 = .ok (.i2f, 1) := by decide +kernel
theorem dX11_errorShare_23 : decode cX11_errorShare 23 = .ok (.aload_n 0, 1) := by decide +kernel
theorem dX11_errorShare_24 : decode cX11_errorShare 24 = .ok (.getfield 106, 3) := by decide +kernel
theorem dX11_errorShare_27 : decode cX11_errorShare 27 = .ok (.i2f, 1) := by decide +kernel
theorem dX11_errorShare_28 : decode cX11_errorShare 28 = .ok (.fdiv, 1) := by decide +kernel
theorem dX11_errorShare_29 : decode cX11_errorShare 29 = .ok (.freturn, 1) := by decide +kernel
theorem dX11_meanSteps_0 : decode cX11_meanSteps 0 = .ok (.aload_n 0, 1) := by decide +kernel
theorem dX11_meanSteps_1 : decode cX11_meanSteps 1 = .ok (.getfield 106, 3) := by decide +kernel
theorem dX11_meanSteps_4 : decode cX11_meanSteps 4 = .ok (.ifCond .ne 14, 3) := by decide +kernel
theorem dX11_meanSteps_7 : decode cX11_meanSteps 7 = .ok (.new 259, 3) := by decide +kernel
theorem dX11_meanSteps_10 : decode cX11_meanSteps 10 = .ok (.dup, 1) := by decide +kernel
theorem dX11_meanSteps_11 : decode cX11_meanSteps 11 = .ok (.ldc_w 261, 3) := by decide +kernel
theorem dX11_meanSteps_14 : decode cX11_meanSteps 14 = .ok (.invokespecial 263, 3) := by decide +kernel
theorem dX11_meanSteps_17 : decode cX11_meanSteps 17 = .ok (.athrow, 1) := by decide +kernel
theorem dX11_meanSteps_18 : decode cX11_meanSteps 18 = .ok (.aload_n 0, 1) := by decide +kernel
theorem dX11_meanSteps_19 : decode cX11_meanSteps 19 = .ok (.getfield 109, 3) := by decide +kernel
theorem dX11_meanSteps_22 : decode cX11_meanSteps 22 = .ok (.l2d, 1) := by decide +kernel
theorem dX11_meanSteps_23 : decode cX11_meanSteps 23 = .ok (.aload_n 0, 1) := by decide +kernel
theorem dX11_meanSteps_24 : decode cX11_meanSteps 24 = .ok (.getfield 106, 3) := by decide +kernel
theorem dX11_meanSteps_27 : decode cX11_meanSteps 27 = .ok (.i2d, 1) := by decide +kernel
theorem dX11_meanSteps_28 : decode cX11_meanSteps 28 = .ok (.ddiv, 1) := by decide +kernel
theorem dX11_meanSteps_29 : decode cX11_meanSteps 29 = .ok (.dreturn, 1) := by decide +kernel
theorem dX11_isSound_0 : decode cX11_isSound 0 = .ok (.aload_n 0, 1) := by decide +kernel
theorem dX11_isSound_1 : decode cX11_isSound 1 = .ok (.getfield 14, 3) := by decide +kernel
theorem dX11_isSound_4 : decode cX11_isSound 4 = .ok (.getfield 29, 3) := by decide +kernel
theorem dX11_isSound_7 : decode cX11_isSound 7 = .ok (.astore_n 1, 1) := by decide +kernel
theorem dX11_isSound_8 : decode cX11_isSound 8 = .ok (.aload_n 0, 1) := by decide +kernel
theorem dX11_isSound_9 : decode cX11_isSound 9 = .ok (.getfield 36, 3) := by decide +kernel
theorem dX11_isSound_12 : decode cX11_isSound 12 = .ok (.aload_n 1, 1) := by decide +kernel
theorem dX11_isSound_13 : decode cX11_isSound 13 = .ok (.getfield 193, 3) := by decide +kernel
theorem dX11_isSound_16 : decode cX11_isSound 16 = .ok (.iconst 1, 1) := by decide +kernel
theorem dX11_isSound_17 : decode cX11_isSound 17 = .ok (.isub, 1) := by decide +kernel
theorem dX11_isSound_18 : decode cX11_isSound 18 = .ok (.invokevirtual 236, 3) := by decide +kernel
theorem dX11_isSound_21 : decode cX11_isSound 21 = .ok (.iconst 0, 1) := by decide +kernel
theorem dX11_isSound_22 : decode cX11_isSound 22 = .ok (.istore_n 2, 1) := by decide +kernel
theorem dX11_isSound_23 : decode cX11_isSound 23 = .ok (.iload_n 2, 1) := by decide +kernel
theorem dX11_isSound_24 : decode cX11_isSound 24 = .ok (.aload_n 1, 1) := by decide +kernel
theorem dX11_isSound_25 : decode cX11_isSound 25 = .ok (.getfield 193, 3) := by decide +kernel
theorem dX11_isSound_28 : decode cX11_isSound 28 = .ok (.if_icmp .ge 95, 3) := by decide +kernel
theorem dX11_isSound_31 : decode cX11_isSound 31 = .ok (.aload_n 1, 1) := by decide +kernel
theorem dX11_isSound_32 : decode cX11_isSound 32 = .ok (.getfield 208, 3) := by decide +kernel
theorem dX11_isSound_35 : decode cX11_isSound 35 = .ok (.iload_n 2, 1) := by decide +kernel
theorem dX11_isSound_36 : decode cX11_isSound 36 = .ok (.baload, 1) := by decide +kernel
theorem dX11_isSound_37 : decode cX11_isSound 37 = .ok (.ifCond .eq 6, 3) := by decide +kernel
theorem dX11_isSound_40 : decode cX11_isSound 40 = .ok (.goto 77, 3) := by decide +kernel
theorem dX11_isSound_43 : decode cX11_isSound 43 = .ok (.aload_n 0, 1) := by decide +kernel
theorem dX11_isSound_44 : decode cX11_isSound 44 = .ok (.getfield 43, 3) := by decide +kernel
theorem dX11_isSound_47 : decode cX11_isSound 47 = .ok (.aload_n 0, 1) := by decide +kernel
theorem dX11_isSound_48 : decode cX11_isSound 48 = .ok (.getfield 14, 3) := by decide +kernel
theorem dX11_isSound_51 : decode cX11_isSound 51 = .ok (.invokevirtual 264, 3) := by decide +kernel
theorem dX11_isSound_54 : decode cX11_isSound 54 = .ok (.aload_n 0, 1) := by decide +kernel
theorem dX11_isSound_55 : decode cX11_isSound 55 = .ok (.getfield 43, 3) := by decide +kernel
theorem dX11_isSound_58 : decode cX11_isSound 58 = .ok (.getfield 267, 3) := by decide +kernel
theorem dX11_isSound_61 : decode cX11_isSound 61 = .ok (.aload_n 0, 1) := by decide +kernel
theorem dX11_isSound_62 : decode cX11_isSound 62 = .ok (.getfield 43, 3) := by decide +kernel
theorem dX11_isSound_65 : decode cX11_isSound 65 = .ok (.getfield 267, 3) := by decide +kernel
theorem dX11_isSound_68 : decode cX11_isSound 68 = .ok (.iload_n 2, 1) := by decide +kernel
theorem dX11_isSound_69 : decode cX11_isSound 69 = .ok (.invokevirtual 270, 3) := by decide +kernel
theorem dX11_isSound_72 : decode cX11_isSound 72 = .ok (.invokevirtual 100, 3) := by decide +kernel
theorem dX11_isSound_75 : decode cX11_isSound 75 = .ok (.istore_n 3, 1) := by decide +kernel
theorem dX11_isSound_76 : decode cX11_isSound 76 = .ok (.aload_n 0, 1) := by decide +kernel
theorem dX11_isSound_77 : decode cX11_isSound 77 = .ok (.getfield 43, 3) := by decide +kernel
theorem dX11_isSound_80 : decode cX11_isSound 80 = .ok (.getfield 273, 3) := by decide +kernel
theorem dX11_isSound_83 : decode cX11_isSound 83 = .ok (.iload_n 2, 1) := by decide +kernel
theorem dX11_isSound_84 : decode cX11_isSound 84 = .ok (.iconst 0, 1) := by decide +kernel
theorem dX11_isSound_85 : decode cX11_isSound 85 = .ok (.invokevirtual 277, 3) := by decide +kernel
theorem dX11_isSound_88 : decode cX11_isSound 88 = .ok (.istore 4, 2) := by decide +kernel
theorem dX11_isSound_90 : decode cX11_isSound 90 = .ok (.aload_n 0, 1) := by decide +kernel
theorem dX11_isSound_91 : decode cX11_isSound 91 = .ok (.getfield 43, 3) := by decide +kernel
theorem dX11_isSound_94 : decode cX11_isSound 94 = .ok (.iload_n 3, 1) := by decide +kernel
theorem dX11_isSound_95 : decode cX11_isSound 95 = .ok (.iload 4, 2) := by decide +kernel
theorem dX11_isSound_97 : decode cX11_isSound 97 = .ok (.invokevirtual 282, 3) := by decide +kernel
theorem dX11_isSound_100 : decode cX11_isSound 100 = .ok (.ifCond .eq 15, 3) := by decide +kernel
theorem dX11_isSound_103 : decode cX11_isSound 103 = .ok (.iload_n 3, 1) := by decide +kernel
theorem dX11_isSound_104 : decode cX11_isSound 104 = .ok (.ifCond .ne 13, 3) := by decide +kernel
theorem dX11_isSound_107 : decode cX11_isSound 107 = .ok (.aload_n 0, 1) := by decide +kernel
theorem dX11_isSound_108 : decode cX11_isSound 108 = .ok (.iload_n 2, 1) := by decide +kernel
theorem dX11_isSound_109 : decode cX11_isSound 109 = .ok (.invokevirtual 285, 3) := by decide +kernel
theorem dX11_isSound_112 : decode cX11_isSound 112 = .ok (.ifCond .ne 5, 3) := by decide +kernel
theorem dX11_isSound_115 : decode cX11_isSound 115 = .ok (.iconst 0, 1) := by decide +kernel
theorem dX11_isSound_116 : decode cX11_isSound 116 = .ok (.ireturn, 1) := by decide +kernel
theorem dX11_isSound_117 : decode cX11_isSound 117 = .ok (.iinc 2 1, 3) := by decide +kernel
theorem dX11_isSound_120 : decode cX11_isSound 120 = .ok (.goto (-97), 3) := by decide +kernel
theorem dX11_isSound_123 : decode cX11_isSound 123 = .ok (.iconst 1, 1) := by decide +kernel
theorem dX11_isSound_124 : decode cX11_isSound 124 = .ok (.ireturn, 1) := by decide +kernel
theorem dX14_init_0 : decode cX14_init 0 = .ok (.aload_n 0, 1) := by decide +kernel
theorem dX14_init_1 : decode cX14_init 1 = .ok (.invokespecial 1, 3) := by decide +kernel
theorem dX14_init_4 : decode cX14_init 4 = .ok (.aload_n 0, 1) := by decide +kernel
theorem dX14_init_5 : decode cX14_init 5 = .ok (.iload_n 1, 1) := by decide +kernel
theorem dX14_init_6 : decode cX14_init 6 = .ok (.putfield 7, 3) := by decide +kernel
theorem dX14_init_9 : decode cX14_init 9 = .ok (.aload_n 0, 1) := by decide +kernel
theorem dX14_init_10 : decode cX14_init 10 = .ok (.iload_n 2, 1) := by decide +kernel
theorem dX14_init_11 : decode cX14_init 11 = .ok (.putfield 13, 3) := by decide +kernel
theorem dX14_init_14 : decode cX14_init 14 = .ok (.return_, 1) := by decide +kernel
theorem dX17_init_0 : decode cX17_init 0 = .ok (.aload_n 0, 1) := by decide +kernel
theorem dX17_init_1 : decode cX17_init 1 = .ok (.invokespecial 1, 3) := by decide +kernel
theorem dX17_init_4 : decode cX17_init 4 = .ok (.aload_n 0, 1) := by decide +kernel
theorem dX17_init_5 : decode cX17_init 5 = .ok (.new 7, 3) := by decide +kernel
theorem dX17_init_8 : decode cX17_init 8 = .ok (.dup, 1) := by decide +kernel
theorem dX17_init_9 : decode cX17_init 9 = .ok (.invokespecial 9, 3) := by decide +kernel
theorem dX17_init_12 : decode cX17_init 12 = .ok (.putfield 10, 3) := by decide +kernel
theorem dX17_init_15 : decode cX17_init 15 = .ok (.aload_n 0, 1) := by decide +kernel
theorem dX17_init_16 : decode cX17_init 16 = .ok (.new 7, 3) := by decide +kernel
theorem dX17_init_19 : decode cX17_init 19 = .ok (.dup, 1) := by decide +kernel
theorem dX17_init_20 : decode cX17_init 20 = .ok (.invokespecial 9, 3) := by decide +kernel
theorem dX17_init_23 : decode cX17_init 23 = .ok (.putfield 16, 3) := by decide +kernel
theorem dX17_init_26 : decode cX17_init 26 = .ok (.aload_n 0, 1) := by decide +kernel
theorem dX17_init_27 : decode cX17_init 27 = .ok (.new 7, 3) := by decide +kernel
theorem dX17_init_30 : decode cX17_init 30 = .ok (.dup, 1) := by decide +kernel
theorem dX17_init_31 : decode cX17_init 31 = .ok (.invokespecial 9, 3) := by decide +kernel
theorem dX17_init_34 : decode cX17_init 34 = .ok (.putfield 19, 3) := by decide +kernel
theorem dX17_init_37 : decode cX17_init 37 = .ok (.aload_n 0, 1) := by decide +kernel
theorem dX17_init_38 : decode cX17_init 38 = .ok (.new 7, 3) := by decide +kernel
theorem dX17_init_41 : decode cX17_init 41 = .ok (.dup, 1) := by decide +kernel
theorem dX17_init_42 : decode cX17_init 42 = .ok (.invokespecial 9, 3) := by decide +kernel
theorem dX17_init_45 : decode cX17_init 45 = .ok (.putfield 22, 3) := by decide +kernel
theorem dX17_init_48 : decode cX17_init 48 = .ok (.aload_n 0, 1) := by decide +kernel
theorem dX17_init_49 : decode cX17_init 49 = .ok (.new 7, 3) := by decide +kernel
theorem dX17_init_52 : decode cX17_init 52 = .ok (.dup, 1) := by decide +kernel
theorem dX17_init_53 : decode cX17_init 53 = .ok (.invokespecial 9, 3) := by decide +kernel
theorem dX17_init_56 : decode cX17_init 56 = .ok (.putfield 25, 3) := by decide +kernel
theorem dX17_init_59 : decode cX17_init 59 = .ok (.aload_n 0, 1) := by decide +kernel
theorem dX17_init_60 : decode cX17_init 60 = .ok (.new 7, 3) := by decide +kernel
theorem dX17_init_63 : decode cX17_init 63 = .ok (.dup, 1) := by decide +kernel
theorem dX17_init_64 : decode cX17_init 64 = .ok (.invokespecial 9, 3) := by decide +kernel
theorem dX17_init_67 : decode cX17_init 67 = .ok (.putfield 28, 3) := by decide +kernel
theorem dX17_init_70 : decode cX17_init 70 = .ok (.aload_n 0, 1) := by decide +kernel
theorem dX17_init_71 : decode cX17_init 71 = .ok (.new 7, 3) := by decide +kernel
theorem dX17_init_74 : decode cX17_init 74 = .ok (.dup, 1) := by decide +kernel
theorem dX17_init_75 : decode cX17_init 75 = .ok (.invokespecial 9, 3) := by decide +kernel
theorem dX17_init_78 : decode cX17_init 78 = .ok (.putfield 31, 3) := by decide +kernel
theorem dX17_init_81 : decode cX17_init 81 = .ok (.aload_n 0, 1) := by decide +kernel
theorem dX17_init_82 : decode cX17_init 82 = .ok (.new 7, 3) := by decide +kernel
theorem dX17_init_85 : decode cX17_init 85 = .ok (.dup, 1) := by decide +kernel
theorem dX17_init_86 : decode cX17_init 86 = .ok (.invokespecial 9, 3) := by decide +kernel
theorem dX17_init_89 : decode cX17_init 89 = .ok (.putfield 34, 3) := by decide +kernel
theorem dX17_init_92 : decode cX17_init 92 = .ok (.aload_n 0, 1) := by decide +kernel
theorem dX17_init_93 : decode cX17_init 93 = .ok (.new 7, 3) := by decide +kernel
theorem dX17_init_96 : decode cX17_init 96 = .ok (.dup, 1) := by decide +kernel
theorem dX17_init_97 : decode cX17_init 97 = .ok (.invokespecial 9, 3) := by decide +kernel
theorem dX17_init_100 : decode cX17_init 100 = .ok (.putfield 37, 3) := by decide +kernel
theorem dX17_init_103 : decode cX17_init 103 = .ok (.aload_n 0, 1) := by decide +kernel
theorem dX17_init_104 : decode cX17_init 104 = .ok (.bipush 100, 2) := by decide +kernel
theorem dX17_init_106 : decode cX17_init 106 = .ok (.newarray .int, 2) := by decide +kernel
theorem dX17_init_108 : decode cX17_init 108 = .ok (.putfield 40, 3) := by decide +kernel
theorem dX17_init_111 : decode cX17_init 111 = .ok (.aload_n 0, 1) := by decide +kernel
theorem dX17_init_112 : decode cX17_init 112 = .ok (.bipush 30, 2) := by decide +kernel
theorem dX17_init_114 : decode cX17_init 114 = .ok (.newarray .int, 2) := by decide +kernel
theorem dX17_init_116 : decode cX17_init 116 = .ok (.putfield 44, 3) := by decide +kernel
theorem dX17_init_119 : decode cX17_init 119 = .ok (.aload_n 0, 1) := by decide +kernel
theorem dX17_init_120 : decode cX17_init 120 = .ok (.bipush 30, 2) := by decide +kernel
theorem dX17_init_122 : decode cX17_init 122 = .ok (.newarray .int, 2) := by decide +kernel
theorem dX17_init_124 : decode cX17_init 124 = .ok (.putfield 47, 3) := by decide +kernel
theorem dX17_init_127 : decode cX17_init 127 = .ok (.aload_n 0, 1) := by decide +kernel
theorem dX17_init_128 : decode cX17_init 128 = .ok (.bipush 41, 2) := by decide +kernel
theorem dX17_init_130 : decode cX17_init 130 = .ok (.newarray .int, 2) := by decide +kernel
theorem dX17_init_132 : decode cX17_init 132 = .ok (.putfield 50, 3) := by decide +kernel
theorem dX17_init_135 : decode cX17_init 135 = .ok (.aload_n 0, 1) := by decide +kernel
theorem dX17_init_136 : decode cX17_init 136 = .ok (.bipush 30, 2) := by decide +kernel
theorem dX17_init_138 : decode cX17_init 138 = .ok (.newarray .boolean, 2) := by decide +kernel
theorem dX17_init_140 : decode cX17_init 140 = .ok (.putfield 53, 3) := by decide +kernel
theorem dX17_init_143 : decode cX17_init 143 = .ok (.aload_n 0, 1) := by decide +kernel
theorem dX17_init_144 : decode cX17_init 144 = .ok (.bipush 41, 2) := by decide +kernel
theorem dX17_init_146 : decode cX17_init 146 = .ok (.newarray .boolean, 2) := by decide +kernel
theorem dX17_init_148 : decode cX17_init 148 = .ok (.putfield 57, 3) := by decide +kernel
theorem dX17_init_151 : decode cX17_init 151 = .ok (.return_, 1) := by decide +kernel
theorem dX17_thrown_0 : decode cX17_thrown 0 = .ok (.aload_n 0, 1) := by decide +kernel
theorem dX17_thrown_1 : decode cX17_thrown 1 = .ok (.getfield 60, 3) := by decide +kernel
theorem dX17_thrown_4 : decode cX17_thrown 4 = .ok (.ireturn, 1) := by decide +kernel
theorem dX17_fails_0 : decode cX17_fails 0 = .ok (.aload_n 0, 1) := by decide +kernel
theorem dX17_fails_1 : decode cX17_fails 1 = .ok (.iload_n 1, 1) := by decide +kernel
theorem dX17_fails_2 : decode cX17_fails 2 = .ok (.putfield 60, 3) := by decide +kernel
theorem dX17_fails_5 : decode cX17_fails 5 = .ok (.iconst 0, 1) := by decide +kernel
theorem dX17_fails_6 : decode cX17_fails 6 = .ok (.ireturn, 1) := by decide +kernel
theorem dX17_tell_0 : decode cX17_tell 0 = .ok (.aload_n 0, 1) := by decide +kernel
theorem dX17_tell_1 : decode cX17_tell 1 = .ok (.iconst 0, 1) := by decide +kernel
theorem dX17_tell_2 : decode cX17_tell 2 = .ok (.putfield 60, 3) := by decide +kernel
theorem dX17_tell_5 : decode cX17_tell 5 = .ok (.iload_n 1, 1) := by decide +kernel
theorem dX17_tell_6 : decode cX17_tell 6 = .ok (.ireturn, 1) := by decide +kernel
theorem dX17_in_0 : decode cX17_in 0 = .ok (.iload_n 0, 1) := by decide +kernel
theorem dX17_in_1 : decode cX17_in 1 = .ok (.iload_n 1, 1) := by decide +kernel
theorem dX17_in_2 : decode cX17_in 2 = .ok (.if_icmp .lt 12, 3) := by decide +kernel
theorem dX17_in_5 : decode cX17_in 5 = .ok (.iload_n 0, 1) := by decide +kernel
theorem dX17_in_6 : decode cX17_in 6 = .ok (.iload_n 2, 1) := by decide +kernel
theorem dX17_in_7 : decode cX17_in 7 = .ok (.if_icmp .gt 7, 3) := by decide +kernel
theorem dX17_in_10 : decode cX17_in 10 = .ok (.iconst 1, 1) := by decide +kernel
theorem dX17_in_11 : decode cX17_in 11 = .ok (.goto 4, 3) := by decide +kernel
theorem dX17_in_14 : decode cX17_in 14 = .ok (.iconst 0, 1) := by decide +kernel
theorem dX17_in_15 : decode cX17_in 15 = .ok (.ireturn, 1) := by decide +kernel
theorem dX17_foundIn_0 : decode cX17_foundIn 0 = .ok (.aload_n 0, 1) := by decide +kernel
theorem dX17_foundIn_1 : decode cX17_foundIn 1 = .ok (.getfield 16, 3) := by decide +kernel
theorem dX17_foundIn_4 : decode cX17_foundIn 4 = .ok (.invokevirtual 67, 3) := by decide +kernel
theorem dX17_foundIn_7 : decode cX17_foundIn 7 = .ok (.iconst 1, 1) := by decide +kernel
theorem dX17_foundIn_8 : decode cX17_foundIn 8 = .ok (.isub, 1) := by decide +kernel
theorem dX17_foundIn_9 : decode cX17_foundIn 9 = .ok (.istore_n 3, 1) := by decide +kernel
theorem dX17_foundIn_10 : decode cX17_foundIn 10 = .ok (.iload_n 3, 1) := by decide +kernel
theorem dX17_foundIn_11 : decode cX17_foundIn 11 = .ok (.ifCond .lt 47, 3) := by decide +kernel
theorem dX17_foundIn_14 : decode cX17_foundIn 14 = .ok (.aload_n 0, 1) := by decide +kernel
theorem dX17_foundIn_15 : decode cX17_foundIn 15 = .ok (.getfield 16, 3) := by decide +kernel
theorem dX17_foundIn_18 : decode cX17_foundIn 18 = .ok (.iload_n 3, 1) := by decide +kernel
theorem dX17_foundIn_19 : decode cX17_foundIn 19 = .ok (.invokevirtual 71, 3) := by decide +kernel
theorem dX17_foundIn_22 : decode cX17_foundIn 22 = .ok (.checkcast 122, 3) := by decide +kernel
theorem dX17_foundIn_25 : decode cX17_foundIn 25 = .ok (.getfield 124, 3) := by decide +kernel
theorem dX17_foundIn_28 : decode cX17_foundIn 28 = .ok (.iload_n 1, 1) := by decide +kernel
theorem dX17_foundIn_29 : decode cX17_foundIn 29 = .ok (.if_icmp .ne 23, 3) := by decide +kernel
theorem dX17_foundIn_32 : decode cX17_foundIn 32 = .ok (.aload_n 0, 1) := by decide +kernel
theorem dX17_foundIn_33 : decode cX17_foundIn 33 = .ok (.getfield 16, 3) := by decide +kernel
theorem dX17_foundIn_36 : decode cX17_foundIn 36 = .ok (.iload_n 3, 1) := by decide +kernel
theorem dX17_foundIn_37 : decode cX17_foundIn 37 = .ok (.invokevirtual 71, 3) := by decide +kernel
theorem dX17_foundIn_40 : decode cX17_foundIn 40 = .ok (.checkcast 122, 3) := by decide +kernel
theorem dX17_foundIn_43 : decode cX17_foundIn 43 = .ok (.getfield 127, 3) := by decide +kernel
theorem dX17_foundIn_46 : decode cX17_foundIn 46 = .ok (.iload_n 2, 1) := by decide +kernel
theorem dX17_foundIn_47 : decode cX17_foundIn 47 = .ok (.if_icmp .ne 5, 3) := by decide +kernel
theorem dX17_foundIn_50 : decode cX17_foundIn 50 = .ok (.iload_n 3, 1) := by decide +kernel
theorem dX17_foundIn_51 : decode cX17_foundIn 51 = .ok (.ireturn, 1) := by decide +kernel
theorem dX17_foundIn_52 : decode cX17_foundIn 52 = .ok (.iinc 3 (-1), 3) := by decide +kernel
theorem dX17_foundIn_55 : decode cX17_foundIn 55 = .ok (.goto (-45), 3) := by decide +kernel
theorem dX17_foundIn_58 : decode cX17_foundIn 58 = .ok (.iconst (-1), 1) := by decide +kernel
theorem dX17_foundIn_59 : decode cX17_foundIn 59 = .ok (.ireturn, 1) := by decide +kernel
theorem dX17_found_0 : decode cX17_found 0 = .ok (.aload_n 0, 1) := by decide +kernel
theorem dX17_found_1 : decode cX17_found 1 = .ok (.iload_n 1, 1) := by decide +kernel
theorem dX17_found_2 : decode cX17_found 2 = .ok (.aload_n 0, 1) := by decide +kernel
theorem dX17_found_3 : decode cX17_found 3 = .ok (.getfield 130, 3) := by decide +kernel
theorem dX17_found_6 : decode cX17_found 6 = .ok (.invokevirtual 133, 3) := by decide +kernel
theorem dX17_found_9 : decode cX17_found 9 = .ok (.istore_n 2, 1) := by decide +kernel
theorem dX17_found_10 : decode cX17_found 10 = .ok (.iload_n 2, 1) := by decide +kernel
theorem dX17_found_11 : decode cX17_found 11 = .ok (.iconst (-1), 1) := by decide +kernel
theorem dX17_found_12 : decode cX17_found 12 = .ok (.if_icmp .ne 12, 3) := by decide +kernel
theorem dX17_found_15 : decode cX17_found 15 = .ok (.aload_n 0, 1) := by decide +kernel
theorem dX17_found_16 : decode cX17_found 16 = .ok (.iload_n 1, 1) := by decide +kernel
theorem dX17_found_17 : decode cX17_found 17 = .ok (.iconst 0, 1) := by decide +kernel
theorem dX17_found_18 : decode cX17_found 18 = .ok (.invokevirtual 133, 3) := by decide +kernel
theorem dX17_found_21 : decode cX17_found 21 = .ok (.goto 4, 3) := by decide +kernel
theorem dX17_found_24 : decode cX17_found 24 = .ok (.iload_n 2, 1) := by decide +kernel
theorem dX17_found_25 : decode cX17_found 25 = .ok (.ireturn, 1) := by decide +kernel
theorem dX17_puts_0 : decode cX17_puts 0 = .ok (.aload_n 0, 1) := by decide +kernel
theorem dX17_puts_1 : decode cX17_puts 1 = .ok (.getfield 10, 3) := by decide +kernel
theorem dX17_puts_4 : decode cX17_puts 4 = .ok (.invokevirtual 67, 3) := by decide +kernel
theorem dX17_puts_7 : decode cX17_puts 7 = .ok (.bipush 40, 2) := by decide +kernel
theorem dX17_puts_9 : decode cX17_puts 9 = .ok (.if_icmp .ne 19, 3) := by decide +kernel
theorem dX17_puts_12 : decode cX17_puts 12 = .ok (.aload_n 0, 1) := by decide +kernel
theorem dX17_puts_13 : decode cX17_puts 13 = .ok (.iload_n 1, 1) := by decide +kernel
theorem dX17_puts_14 : decode cX17_puts 14 = .ok (.bipush 110, 2) := by decide +kernel
theorem dX17_puts_16 : decode cX17_puts 16 = .ok (.if_icmp .ne 7, 3) := by decide +kernel
theorem dX17_puts_19 : decode cX17_puts 19 = .ok (.iconst 1, 1) := by decide +kernel
theorem dX17_puts_20 : decode cX17_puts 20 = .ok (.goto 4, 3) := by decide +kernel
theorem dX17_puts_23 : decode cX17_puts 23 = .ok (.iconst 2, 1) := by decide +kernel
theorem dX17_puts_24 : decode cX17_puts 24 = .ok (.invokevirtual 366, 3) := by decide +kernel
theorem dX17_puts_27 : decode cX17_puts 27 = .ok (.ireturn, 1) := by decide +kernel
theorem dX17_puts_28 : decode cX17_puts 28 = .ok (.aload_n 0, 1) := by decide +kernel
theorem dX17_puts_29 : decode cX17_puts 29 = .ok (.getfield 10, 3) := by decide +kernel
theorem dX17_puts_32 : decode cX17_puts 32 = .ok (.new 113, 3) := by decide +kernel
theorem dX17_puts_35 : decode cX17_puts 35 = .ok (.dup, 1) := by decide +kernel
theorem dX17_puts_36 : decode cX17_puts 36 = .ok (.iload_n 1, 1) := by decide +kernel
theorem dX17_puts_37 : decode cX17_puts 37 = .ok (.iload_n 2, 1) := by decide +kernel
theorem dX17_puts_38 : decode cX17_puts 38 = .ok (.invokespecial 152, 3) := by decide +kernel
theorem dX17_puts_41 : decode cX17_puts 41 = .ok (.invokevirtual 77, 3) := by decide +kernel
theorem dX17_puts_44 : decode cX17_puts 44 = .ok (.pop, 1) := by decide +kernel
theorem dX17_puts_45 : decode cX17_puts 45 = .ok (.aload_n 0, 1) := by decide +kernel
theorem dX17_puts_46 : decode cX17_puts 46 = .ok (.aload_n 0, 1) := by decide +kernel
theorem dX17_puts_47 : decode cX17_puts 47 = .ok (.getfield 10, 3) := by decide +kernel
theorem dX17_puts_50 : decode cX17_puts 50 = .ok (.invokevirtual 67, 3) := by decide +kernel
theorem dX17_puts_53 : decode cX17_puts 53 = .ok (.invokevirtual 369, 3) := by decide +kernel
theorem dX17_puts_56 : decode cX17_puts 56 = .ok (.ireturn, 1) := by decide +kernel
theorem dX17_word_0 : decode cX17_word 0 = .ok (.ldc_w 372, 3) := by decide +kernel
theorem dX17_word_3 : decode cX17_word 3 = .ok (.iload_n 1, 1) := by decide +kernel
theorem dX17_word_4 : decode cX17_word 4 = .ok (.invokevirtual 234, 3) := by decide +kernel
theorem dX17_word_7 : decode cX17_word 7 = .ok (.ifCond .ge 21, 3) := by decide +kernel
theorem dX17_word_10 : decode cX17_word 10 = .ok (.ldc_w 364, 3) := by decide +kernel
theorem dX17_word_13 : decode cX17_word 13 = .ok (.iload_n 1, 1) := by decide +kernel
theorem dX17_word_14 : decode cX17_word 14 = .ok (.invokevirtual 234, 3) := by decide +kernel
theorem dX17_word_17 : decode cX17_word 17 = .ok (.ifCond .ge 11, 3) := by decide +kernel
theorem dX17_word_20 : decode cX17_word 20 = .ok (.aload_n 0, 1) := by decide +kernel
theorem dX17_word_21 : decode cX17_word 21 = .ok (.iconst 1, 1) := by decide +kernel
theorem dX17_word_22 : decode cX17_word 22 = .ok (.invokevirtual 366, 3) := by decide +kernel
theorem dX17_word_25 : decode cX17_word 25 = .ok (.goto 10, 3) := by decide +kernel
theorem dX17_word_28 : decode cX17_word 28 = .ok (.aload_n 0, 1) := by decide +kernel
theorem dX17_word_29 : decode cX17_word 29 = .ok (.bipush 119, 2) := by decide +kernel
theorem dX17_word_31 : decode cX17_word 31 = .ok (.iload_n 1, 1) := by decide +kernel
theorem dX17_word_32 : decode cX17_word 32 = .ok (.invokevirtual 374, 3) := by decide +kernel
theorem dX17_word_35 : decode cX17_word 35 = .ok (.ireturn, 1) := by decide +kernel
theorem dX17_name_0 : decode cX17_name 0 = .ok (.iload_n 1, 1) := by decide +kernel
theorem dX17_name_1 : decode cX17_name 1 = .ok (.iconst 0, 1) := by decide +kernel
theorem dX17_name_2 : decode cX17_name 2 = .ok (.bipush 15, 2) := by decide +kernel
theorem dX17_name_4 : decode cX17_name 4 = .ok (.invokestatic 278, 3) := by decide +kernel
theorem dX17_name_7 : decode cX17_name 7 = .ok (.ifCond .eq 13, 3) := by decide +kernel
theorem dX17_name_10 : decode cX17_name 10 = .ok (.aload_n 0, 1) := by decide +kernel
theorem dX17_name_11 : decode cX17_name 11 = .ok (.bipush 120, 2) := by decide +kernel
theorem dX17_name_13 : decode cX17_name 13 = .ok (.iload_n 1, 1) := by decide +kernel
theorem dX17_name_14 : decode cX17_name 14 = .ok (.invokevirtual 374, 3) := by decide +kernel
theorem dX17_name_17 : decode cX17_name 17 = .ok (.goto 8, 3) := by decide +kernel
theorem dX17_name_20 : decode cX17_name 20 = .ok (.aload_n 0, 1) := by decide +kernel
theorem dX17_name_21 : decode cX17_name 21 = .ok (.iconst 1, 1) := by decide +kernel
theorem dX17_name_22 : decode cX17_name 22 = .ok (.invokevirtual 366, 3) := by decide +kernel
theorem dX17_name_25 : decode cX17_name 25 = .ok (.ireturn, 1) := by decide +kernel
theorem dX17_number_0 : decode cX17_number 0 = .ok (.aload_n 0, 1) := by decide +kernel
theorem dX17_number_1 : decode cX17_number 1 = .ok (.bipush 110, 2) := by decide +kernel
theorem dX17_number_3 : decode cX17_number 3 = .ok (.iload_n 1, 1) := by decide +kernel
theorem dX17_number_4 : decode cX17_number 4 = .ok (.invokevirtual 374, 3) := by decide +kernel
theorem dX17_number_7 : decode cX17_number 7 = .ok (.ireturn, 1) := by decide +kernel
theorem dX17_enter_0 : decode cX17_enter 0 = .ok (.aload_n 0, 1) := by decide +kernel
theorem dX17_enter_1 : decode cX17_enter 1 = .ok (.iconst 0, 1) := by decide +kernel
theorem dX17_enter_2 : decode cX17_enter 2 = .ok (.putfield 60, 3) := by decide +kernel
theorem dX17_enter_5 : decode cX17_enter 5 = .ok (.aload_n 0, 1) := by decide +kernel
theorem dX17_enter_6 : decode cX17_enter 6 = .ok (.dup, 1) := by decide +kernel
theorem dX17_enter_7 : decode cX17_enter 7 = .ok (.getfield 386, 3) := by decide +kernel
theorem dX17_enter_10 : decode cX17_enter 10 = .ok (.iconst 1, 1) := by decide +kernel
theorem dX17_enter_11 : decode cX17_enter 11 = .ok (.iadd, 1) := by decide +kernel
theorem dX17_enter_12 : decode cX17_enter 12 = .ok (.putfield 386, 3) := by decide +kernel
theorem dX17_enter_15 : decode cX17_enter 15 = .ok (.aload_n 0, 1) := by decide +kernel
theorem dX17_enter_16 : decode cX17_enter 16 = .ok (.iconst 0, 1) := by decide +kernel
theorem dX17_enter_17 : decode cX17_enter 17 = .ok (.putfield 110, 3) := by decide +kernel
theorem dX17_enter_20 : decode cX17_enter 20 = .ok (.aload_n 0, 1) := by decide +kernel
theorem dX17_enter_21 : decode cX17_enter 21 = .ok (.iconst 0, 1) := by decide +kernel
theorem dX17_enter_22 : decode cX17_enter 22 = .ok (.putfield 155, 3) := by decide +kernel
theorem dX17_enter_25 : decode cX17_enter 25 = .ok (.aload_n 0, 1) := by decide +kernel
theorem dX17_enter_26 : decode cX17_enter 26 = .ok (.iconst 0, 1) := by decide +kernel
theorem dX17_enter_27 : decode cX17_enter 27 = .ok (.putfield 86, 3) := by decide +kernel
theorem dX17_enter_30 : decode cX17_enter 30 = .ok (.aload_n 0, 1) := by decide +kernel
theorem dX17_enter_31 : decode cX17_enter 31 = .ok (.iconst 0, 1) := by decide +kernel
theorem dX17_enter_32 : decode cX17_enter 32 = .ok (.putfield 380, 3) := by decide +kernel
theorem dX17_enter_35 : decode cX17_enter 35 = .ok (.aload_n 0, 1) := by decide +kernel
theorem dX17_enter_36 : decode cX17_enter 36 = .ok (.getfield 110, 3) := by decide +kernel
theorem dX17_enter_39 : decode cX17_enter 39 = .ok (.aload_n 0, 1) := by decide +kernel
theorem dX17_enter_40 : decode cX17_enter 40 = .ok (.getfield 10, 3) := by decide +kernel
theorem dX17_enter_43 : decode cX17_enter 43 = .ok (.invokevirtual 67, 3) := by decide +kernel
theorem dX17_enter_46 : decode cX17_enter 46 = .ok (.if_icmp .ge 36, 3) := by decide +kernel
theorem dX17_enter_49 : decode cX17_enter 49 = .ok (.aload_n 0, 1) := by decide +kernel
theorem dX17_enter_50 : decode cX17_enter 50 = .ok (.dup, 1) := by decide +kernel
theorem dX17_enter_51 : decode cX17_enter 51 = .ok (.getfield 110, 3) := by decide +kernel
theorem dX17_enter_54 : decode cX17_enter 54 = .ok (.iconst 1, 1) := by decide +kernel
theorem dX17_enter_55 : decode cX17_enter 55 = .ok (.iadd, 1) := by decide +kernel
theorem dX17_enter_56 : decode cX17_enter 56 = .ok (.putfield 110, 3) := by decide +kernel
theorem dX17_enter_59 : decode cX17_enter 59 = .ok (.aload_n 0, 1) := by decide +kernel
theorem dX17_enter_60 : decode cX17_enter 60 = .ok (.aload_n 0, 1) := by decide +kernel
theorem dX17_enter_61 : decode cX17_enter 61 = .ok (.getfield 10, 3) := by decide +kernel
theorem dX17_enter_64 : decode cX17_enter 64 = .ok (.aload_n 0, 1) := by decide +kernel
theorem dX17_enter_65 : decode cX17_enter 65 = .ok (.getfield 110, 3) := by decide +kernel
theorem dX17_enter_68 : decode cX17_enter 68 = .ok (.iconst 1, 1) := by decide +kernel
theorem dX17_enter_69 : decode cX17_enter 69 = .ok (.isub, 1) := by decide +kernel
theorem dX17_enter_70 : decode cX17_enter 70 = .ok (.invokevirtual 71, 3) := by decide +kernel
theorem dX17_enter_73 : decode cX17_enter 73 = .ok (.checkcast 113, 3) := by decide +kernel
theorem dX17_enter_76 : decode cX17_enter 76 = .ok (.invokevirtual 389, 3) := by decide +kernel
theorem dX17_enter_79 : decode cX17_enter 79 = .ok (.goto (-44), 3) := by decide +kernel
theorem dX17_enter_82 : decode cX17_enter 82 = .ok (.aload_n 0, 1) := by decide +kernel
theorem dX17_enter_83 : decode cX17_enter 83 = .ok (.getfield 34, 3) := by decide +kernel
theorem dX17_enter_86 : decode cX17_enter 86 = .ok (.invokevirtual 64, 3) := by decide +kernel
theorem dX17_enter_89 : decode cX17_enter 89 = .ok (.goto 29, 3) := by decide +kernel
theorem dX17_enter_92 : decode cX17_enter 92 = .ok (.astore_n 1, 1) := by decide +kernel
theorem dX17_enter_93 : decode cX17_enter 93 = .ok (.aload_n 0, 1) := by decide +kernel
theorem dX17_enter_94 : decode cX17_enter 94 = .ok (.aload_n 1, 1) := by decide +kernel
theorem dX17_enter_95 : decode cX17_enter 95 = .ok (.getfield 298, 3) := by decide +kernel
theorem dX17_enter_98 : decode cX17_enter 98 = .ok (.invokevirtual 393, 3) := by decide +kernel
theorem dX17_enter_101 : decode cX17_enter 101 = .ok (.goto 17, 3) := by decide +kernel
theorem dX17_enter_104 : decode cX17_enter 104 = .ok (.astore_n 1, 1) := by decide +kernel
theorem dX17_enter_105 : decode cX17_enter 105 = .ok (.aload_n 0, 1) := by decide +kernel
theorem dX17_enter_106 : decode cX17_enter 106 = .ok (.getfield 34, 3) := by decide +kernel
theorem dX17_enter_109 : decode cX17_enter 109 = .ok (.invokevirtual 64, 3) := by decide +kernel
theorem dX17_enter_112 : decode cX17_enter 112 = .ok (.aload_n 0, 1) := by decide +kernel
theorem dX17_enter_113 : decode cX17_enter 113 = .ok (.bipush (-90), 2) := by decide +kernel
theorem dX17_enter_115 : decode cX17_enter 115 = .ok (.invokevirtual 393, 3) := by decide +kernel
theorem dX17_enter_118 : decode cX17_enter 118 = .ok (.aload_n 0, 1) := by decide +kernel
theorem dX17_enter_119 : decode cX17_enter 119 = .ok (.getfield 10, 3) := by decide +kernel
theorem dX17_enter_122 : decode cX17_enter 122 = .ok (.invokevirtual 64, 3) := by decide +kernel
theorem dX17_enter_125 : decode cX17_enter 125 = .ok (.aload_n 0, 1) := by decide +kernel
theorem dX17_enter_126 : decode cX17_enter 126 = .ok (.getfield 380, 3) := by decide +kernel
theorem dX17_enter_129 : decode cX17_enter 129 = .ok (.ifCond .eq 8, 3) := by decide +kernel
theorem dX17_enter_132 : decode cX17_enter 132 = .ok (.bipush 101, 2) := by decide +kernel
theorem dX17_enter_134 : decode cX17_enter 134 = .ok (.goto 17, 3) := by decide +kernel
theorem dX17_enter_137 : decode cX17_enter 137 = .ok (.aload_n 0, 1) := by decide +kernel
theorem dX17_enter_138 : decode cX17_enter 138 = .ok (.getfield 303, 3) := by decide +kernel
theorem dX17_enter_141 : decode cX17_enter 141 = .ok (.ifCond .eq 8, 3) := by decide +kernel
theorem dX17_enter_144 : decode cX17_enter 144 = .ok (.bipush 99, 2) := by decide +kernel
theorem dX17_enter_146 : decode cX17_enter 146 = .ok (.goto 5, 3) := by decide +kernel
theorem dX17_enter_149 : decode cX17_enter 149 = .ok (.bipush 111, 2) := by decide +kernel
theorem dX17_enter_151 : decode cX17_enter 151 = .ok (.ireturn, 1) := by decide +kernel
theorem dX17_error__0 : decode cX17_error_ 0 = .ok (.aload_n 0, 1) := by decide +kernel
theorem dX17_error__1 : decode cX17_error_ 1 = .ok (.getfield 380, 3) := by decide +kernel
theorem dX17_error__4 : decode cX17_error_ 4 = .ok (.ifCond .eq 14, 3) := by decide +kernel
theorem dX17_error__7 : decode cX17_error_ 7 = .ok (.aload_n 0, 1) := by decide +kernel
theorem dX17_error__8 : decode cX17_error_ 8 = .ok (.aload_n 0, 1) := by decide +kernel
theorem dX17_error__9 : decode cX17_error_ 9 = .ok (.getfield 378, 3) := by decide +kernel
theorem dX17_error__12 : decode cX17_error_ 12 = .ok (.invokevirtual 369, 3) := by decide +kernel
theorem dX17_error__15 : decode cX17_error_ 15 = .ok (.goto 8, 3) := by decide +kernel
theorem dX17_error__18 : decode cX17_error_ 18 = .ok (.aload_n 0, 1) := by decide +kernel
theorem dX17_error__19 : decode cX17_error_ 19 = .ok (.iconst 1, 1) := by decide +kernel
theorem dX17_error__20 : decode cX17_error_ 20 = .ok (.invokevirtual 366, 3) := by decide +kernel
theorem dX17_error__23 : decode cX17_error_ 23 = .ok (.ireturn, 1) := by decide +kernel
theorem dX17_trace_0 : decode cX17_trace 0 = .ok (.aload_n 0, 1) := by decide +kernel
theorem dX17_trace_1 : decode cX17_trace 1 = .ok (.aload_n 0, 1) := by decide +kernel
theorem dX17_trace_2 : decode cX17_trace 2 = .ok (.getfield 34, 3) := by decide +kernel
theorem dX17_trace_5 : decode cX17_trace 5 = .ok (.invokevirtual 67, 3) := by decide +kernel
theorem dX17_trace_8 : decode cX17_trace 8 = .ok (.invokevirtual 369, 3) := by decide +kernel
theorem dX17_trace_11 : decode cX17_trace 11 = .ok (.ireturn, 1) := by decide +kernel
theorem dX17_traceAt_0 : decode cX17_traceAt 0 = .ok (.iload_n 1, 1) := by decide +kernel
theorem dX17_traceAt_1 : decode cX17_traceAt 1 = .ok (.iconst 0, 1) := by decide +kernel
theorem dX17_traceAt_2 : decode cX17_traceAt 2 = .ok (.aload_n 0, 1) := by decide +kernel
theorem dX17_traceAt_3 : decode cX17_traceAt 3 = .ok (.getfield 34, 3) := by decide +kernel
theorem dX17_traceAt_6 : decode cX17_traceAt 6 = .ok (.invokevirtual 67, 3) := by decide +kernel
theorem dX17_traceAt_9 : decode cX17_traceAt 9 = .ok (.iconst 1, 1) := by decide +kernel
theorem dX17_traceAt_10 : decode cX17_traceAt 10 = .ok (.isub, 1) := by decide +kernel
theorem dX17_traceAt_11 : decode cX17_traceAt 11 = .ok (.invokestatic 278, 3) := by decide +kernel
theorem dX17_traceAt_14 : decode cX17_traceAt 14 = .ok (.ifCond .eq 24, 3) := by decide +kernel
theorem dX17_traceAt_17 : decode cX17_traceAt 17 = .ok (.aload_n 0, 1) := by decide +kernel
theorem dX17_traceAt_18 : decode cX17_traceAt 18 = .ok (.aload_n 0, 1) := by decide +kernel
theorem dX17_traceAt_19 : decode cX17_traceAt 19 = .ok (.getfield 34, 3) := by decide +kernel
theorem dX17_traceAt_22 : decode cX17_traceAt 22 = .ok (.iload_n 1, 1) := by decide +kernel
theorem dX17_traceAt_23 : decode cX17_traceAt 23 = .ok (.invokevirtual 71, 3) := by decide +kernel
theorem dX17_traceAt_26 : decode cX17_traceAt 26 = .ok (.checkcast 75, 3) := by decide +kernel
theorem dX17_traceAt_29 : decode cX17_traceAt 29 = .ok (.invokevirtual 103, 3) := by decide +kernel
theorem dX17_traceAt_32 : decode cX17_traceAt 32 = .ok (.invokevirtual 369, 3) := by decide +kernel
theorem dX17_traceAt_35 : decode cX17_traceAt 35 = .ok (.goto 8, 3) := by decide +kernel
theorem dX17_traceAt_38 : decode cX17_traceAt 38 = .ok (.aload_n 0, 1) := by decide +kernel
theorem dX17_traceAt_39 : decode cX17_traceAt 39 = .ok (.iconst 1, 1) := by decide +kernel
theorem dX17_traceAt_40 : decode cX17_traceAt 40 = .ok (.invokevirtual 366, 3) := by decide +kernel
theorem dX17_traceAt_43 : decode cX17_traceAt 43 = .ok (.ireturn, 1) := by decide +kernel
theorem dX17_depth_0 : decode cX17_depth 0 = .ok (.aload_n 0, 1) := by decide +kernel
theorem dX17_depth_1 : decode cX17_depth 1 = .ok (.aload_n 0, 1) := by decide +kernel
theorem dX17_depth_2 : decode cX17_depth 2 = .ok (.getfield 19, 3) := by decide +kernel
theorem dX17_depth_5 : decode cX17_depth 5 = .ok (.invokevirtual 67, 3) := by decide +kernel
theorem dX17_depth_8 : decode cX17_depth 8 = .ok (.invokevirtual 369, 3) := by decide +kernel
theorem dX17_depth_11 : decode cX17_depth 11 = .ok (.ireturn, 1) := by decide +kernel
theorem dX17_at_0 : decode cX17_at 0 = .ok (.iload_n 1, 1) := by decide +kernel
theorem dX17_at_1 : decode cX17_at 1 = .ok (.iconst 0, 1) := by decide +kernel
theorem dX17_at_2 : decode cX17_at 2 = .ok (.aload_n 0, 1) := by decide +kernel
theorem dX17_at_3 : decode cX17_at 3 = .ok (.getfield 19, 3) := by decide +kernel
theorem dX17_at_6 : decode cX17_at 6 = .ok (.invokevirtual 67, 3) := by decide +kernel
theorem dX17_at_9 : decode cX17_at 9 = .ok (.iconst 1, 1) := by decide +kernel
theorem dX17_at_10 : decode cX17_at 10 = .ok (.isub, 1) := by decide +kernel
theorem dX17_at_11 : decode cX17_at 11 = .ok (.invokestatic 278, 3) := by decide +kernel
theorem dX17_at_14 : decode cX17_at 14 = .ok (.ifCond .eq 15, 3) := by decide +kernel
theorem dX17_at_17 : decode cX17_at 17 = .ok (.aload_n 0, 1) := by decide +kernel
theorem dX17_at_18 : decode cX17_at 18 = .ok (.aload_n 0, 1) := by decide +kernel
theorem dX17_at_19 : decode cX17_at 19 = .ok (.iload_n 1, 1) := by decide +kernel
theorem dX17_at_20 : decode cX17_at 20 = .ok (.invokevirtual 265, 3) := by decide +kernel
theorem dX17_at_23 : decode cX17_at 23 = .ok (.invokevirtual 369, 3) := by decide +kernel
theorem dX17_at_26 : decode cX17_at 26 = .ok (.goto 8, 3) := by decide +kernel
theorem dX17_at_29 : decode cX17_at 29 = .ok (.aload_n 0, 1) := by decide +kernel
theorem dX17_at_30 : decode cX17_at 30 = .ok (.iconst 1, 1) := by decide +kernel
theorem dX17_at_31 : decode cX17_at 31 = .ok (.invokevirtual 366, 3) := by decide +kernel
theorem dX17_at_34 : decode cX17_at 34 = .ok (.ireturn, 1) := by decide +kernel
theorem dX17_second_0 : decode cX17_second 0 = .ok (.aload_n 0, 1) := by decide +kernel
theorem dX17_second_1 : decode cX17_second 1 = .ok (.aload_n 0, 1) := by decide +kernel
theorem dX17_second_2 : decode cX17_second 2 = .ok (.getfield 22, 3) := by decide +kernel
theorem dX17_second_5 : decode cX17_second 5 = .ok (.invokevirtual 67, 3) := by decide +kernel
theorem dX17_second_8 : decode cX17_second 8 = .ok (.invokevirtual 369, 3) := by decide +kernel
theorem dX17_second_11 : decode cX17_second 11 = .ok (.ireturn, 1) := by decide +kernel
theorem dX17_here_0 : decode cX17_here 0 = .ok (.aload_n 0, 1) := by decide +kernel
theorem dX17_here_1 : decode cX17_here 1 = .ok (.aload_n 0, 1) := by decide +kernel
theorem dX17_here_2 : decode cX17_here 2 = .ok (.getfield 188, 3) := by decide +kernel
theorem dX17_here_5 : decode cX17_here 5 = .ok (.invokevirtual 369, 3) := by decide +kernel
theorem dX17_here_8 : decode cX17_here 8 = .ok (.ireturn, 1) := by decide +kernel
theorem dX17_cell_0 : decode cX17_cell 0 = .ok (.iload_n 1, 1) := by decide +kernel
theorem dX17_cell_1 : decode cX17_cell 1 = .ok (.iconst 0, 1) := by decide +kernel
theorem dX17_cell_2 : decode cX17_cell 2 = .ok (.bipush 99, 2) := by decide +kernel
theorem dX17_cell_4 : decode cX17_cell 4 = .ok (.invokestatic 278, 3) := by decide +kernel
theorem dX17_cell_7 : decode cX17_cell 7 = .ok (.ifCond .eq 16, 3) := by decide +kernel
theorem dX17_cell_10 : decode cX17_cell 10 = .ok (.aload_n 0, 1) := by decide +kernel
theorem dX17_cell_11 : decode cX17_cell 11 = .ok (.aload_n 0, 1) := by decide +kernel
theorem dX17_cell_12 : decode cX17_cell 12 = .ok (.getfield 40, 3) := by decide +kernel
theorem dX17_cell_15 : decode cX17_cell 15 = .ok (.iload_n 1, 1) := by decide +kernel
theorem dX17_cell_16 : decode cX17_cell 16 = .ok (.iaload, 1) := by decide +kernel
theorem dX17_cell_17 : decode cX17_cell 17 = .ok (.invokevirtual 369, 3) := by decide +kernel
theorem dX17_cell_20 : decode cX17_cell 20 = .ok (.goto 8, 3) := by decide +kernel
theorem dX17_cell_23 : decode cX17_cell 23 = .ok (.aload_n 0, 1) := by decide +kernel
theorem dX17_cell_24 : decode cX17_cell 24 = .ok (.iconst 1, 1) := by decide +kernel
theorem dX17_cell_25 : decode cX17_cell 25 = .ok (.invokevirtual 366, 3) := by decide +kernel
theorem dX17_cell_28 : decode cX17_cell 28 = .ok (.ireturn, 1) := by decide +kernel
theorem dX17_outs_0 : decode cX17_outs 0 = .ok (.aload_n 0, 1) := by decide +kernel
theorem dX17_outs_1 : decode cX17_outs 1 = .ok (.aload_n 0, 1) := by decide +kernel
theorem dX17_outs_2 : decode cX17_outs 2 = .ok (.getfield 25, 3) := by decide +kernel
theorem dX17_outs_5 : decode cX17_outs 5 = .ok (.invokevirtual 67, 3) := by decide +kernel
theorem dX17_outs_8 : decode cX17_outs 8 = .ok (.invokevirtual 369, 3) := by decide +kernel
theorem dX17_outs_11 : decode cX17_outs 11 = .ok (.ireturn, 1) := by decide +kernel
theorem dX17_outAt_0 : decode cX17_outAt 0 = .ok (.iload_n 1, 1) := by decide +kernel
theorem dX17_outAt_1 : decode cX17_outAt 1 = .ok (.iconst 0, 1) := by decide +kernel
theorem dX17_outAt_2 : decode cX17_outAt 2 = .ok (.aload_n 0, 1) := by decide +kernel
theorem dX17_outAt_3 : decode cX17_outAt 3 = .ok (.getfield 25, 3) := by decide +kernel
theorem dX17_outAt_6 : decode cX17_outAt 6 = .ok (.invokevirtual 67, 3) := by decide +kernel
theorem dX17_outAt_9 : decode cX17_outAt 9 = .ok (.iconst 1, 1) := by decide +kernel
theorem dX17_outAt_10 : decode cX17_outAt 10 = .ok (.isub, 1) := by decide +kernel
theorem dX17_outAt_11 : decode cX17_outAt 11 = .ok (.invokestatic 278, 3) := by decide +kernel
theorem dX17_outAt_14 : decode cX17_outAt 14 = .ok (.ifCond .eq 24, 3) := by decide +kernel
theorem dX17_outAt_17 : decode cX17_outAt 17 = .ok (.aload_n 0, 1) := by decide +kernel
theorem dX17_outAt_18 : decode cX17_outAt 18 = .ok (.aload_n 0, 1) := by decide +kernel
theorem dX17_outAt_19 : decode cX17_outAt 19 = .ok (.getfield 25, 3) := by decide +kernel
theorem dX17_outAt_22 : decode cX17_outAt 22 = .ok (.iload_n 1, 1) := by decide +kernel
theorem dX17_outAt_23 : decode cX17_outAt 23 = .ok (.invokevirtual 71, 3) := by decide +kernel
theorem dX17_outAt_26 : decode cX17_outAt 26 = .ok (.checkcast 75, 3) := by decide +kernel
theorem dX17_outAt_29 : decode cX17_outAt 29 = .ok (.invokevirtual 103, 3) := by decide +kernel
theorem dX17_outAt_32 : decode cX17_outAt 32 = .ok (.invokevirtual 369, 3) := by decide +kernel
theorem dX17_outAt_35 : decode cX17_outAt 35 = .ok (.goto 8, 3) := by decide +kernel
theorem dX17_outAt_38 : decode cX17_outAt 38 = .ok (.aload_n 0, 1) := by decide +kernel
theorem dX17_outAt_39 : decode cX17_outAt 39 = .ok (.iconst 1, 1) := by decide +kernel
theorem dX17_outAt_40 : decode cX17_outAt 40 = .ok (.invokevirtual 366, 3) := by decide +kernel
theorem dX17_outAt_43 : decode cX17_outAt 43 = .ok (.ireturn, 1) := by decide +kernel
theorem dX17_entries_0 : decode cX17_entries 0 = .ok (.aload_n 0, 1) := by decide +kernel
theorem dX17_entries_1 : decode cX17_entries 1 = .ok (.aload_n 0, 1) := by decide +kernel
theorem dX17_entries_2 : decode cX17_entries 2 = .ok (.getfield 16, 3) := by decide +kernel
theorem dX17_entries_5 : decode cX17_entries 5 = .ok (.invokevirtual 67, 3) := by decide +kernel
theorem dX17_entries_8 : decode cX17_entries 8 = .ok (.invokevirtual 369, 3) := by decide +kernel
theorem dX17_entries_11 : decode cX17_entries 11 = .ok (.ireturn, 1) := by decide +kernel
theorem dX17_isEntry_0 : decode cX17_isEntry 0 = .ok (.aload_n 0, 1) := by decide +kernel
theorem dX17_isEntry_1 : decode cX17_isEntry 1 = .ok (.iload_n 1, 1) := by decide +kernel
theorem dX17_isEntry_2 : decode cX17_isEntry 2 = .ok (.iconst 0, 1) := by decide +kernel
theorem dX17_isEntry_3 : decode cX17_isEntry 3 = .ok (.aload_n 0, 1) := by decide +kernel
theorem dX17_isEntry_4 : decode cX17_isEntry 4 = .ok (.getfield 16, 3) := by decide +kernel
theorem dX17_isEntry_7 : decode cX17_isEntry 7 = .ok (.invokevirtual 67, 3) := by decide +kernel
theorem dX17_isEntry_10 : decode cX17_isEntry 10 = .ok (.iconst 1, 1) := by decide +kernel
theorem dX17_isEntry_11 : decode cX17_isEntry 11 = .ok (.isub, 1) := by decide +kernel
theorem dX17_isEntry_12 : decode cX17_isEntry 12 = .ok (.invokestatic 278, 3) := by decide +kernel
theorem dX17_isEntry_15 : decode cX17_isEntry 15 = .ok (.ifCond .eq 7, 3) := by decide +kernel
theorem dX17_isEntry_18 : decode cX17_isEntry 18 = .ok (.iconst 0, 1) := by decide +kernel
theorem dX17_isEntry_19 : decode cX17_isEntry 19 = .ok (.goto 4, 3) := by decide +kernel
theorem dX17_isEntry_22 : decode cX17_isEntry 22 = .ok (.iconst 1, 1) := by decide +kernel
theorem dX17_isEntry_23 : decode cX17_isEntry 23 = .ok (.putfield 60, 3) := by decide +kernel
theorem dX17_isEntry_26 : decode cX17_isEntry 26 = .ok (.aload_n 0, 1) := by decide +kernel
theorem dX17_isEntry_27 : decode cX17_isEntry 27 = .ok (.getfield 60, 3) := by decide +kernel
theorem dX17_isEntry_30 : decode cX17_isEntry 30 = .ok (.ifCond .ne 7, 3) := by decide +kernel
theorem dX17_isEntry_33 : decode cX17_isEntry 33 = .ok (.iconst 1, 1) := by decide +kernel
theorem dX17_isEntry_34 : decode cX17_isEntry 34 = .ok (.goto 4, 3) := by decide +kernel
theorem dX17_isEntry_37 : decode cX17_isEntry 37 = .ok (.iconst 0, 1) := by decide +kernel
theorem dX17_isEntry_38 : decode cX17_isEntry 38 = .ok (.ireturn, 1) := by decide +kernel
theorem dX17_nameOf_0 : decode cX17_nameOf 0 = .ok (.aload_n 0, 1) := by decide +kernel
theorem dX17_nameOf_1 : decode cX17_nameOf 1 = .ok (.iload_n 1, 1) := by decide +kernel
theorem dX17_nameOf_2 : decode cX17_nameOf 2 = .ok (.invokevirtual 396, 3) := by decide +kernel
theorem dX17_nameOf_5 : decode cX17_nameOf 5 = .ok (.ifCond .eq 20, 3) := by decide +kernel
theorem dX17_nameOf_8 : decode cX17_nameOf 8 = .ok (.aload_n 0, 1) := by decide +kernel
theorem dX17_nameOf_9 : decode cX17_nameOf 9 = .ok (.getfield 16, 3) := by decide +kernel
theorem dX17_nameOf_12 : decode cX17_nameOf 12 = .ok (.iload_n 1, 1) := by decide +kernel
theorem dX17_nameOf_13 : decode cX17_nameOf 13 = .ok (.invokevirtual 71, 3) := by decide +kernel
theorem dX17_nameOf_16 : decode cX17_nameOf 16 = .ok (.checkcast 122, 3) := by decide +kernel
theorem dX17_nameOf_19 : decode cX17_nameOf 19 = .ok (.getfield 124, 3) := by decide +kernel
theorem dX17_nameOf_22 : decode cX17_nameOf 22 = .ok (.goto 4, 3) := by decide +kernel
theorem dX17_nameOf_25 : decode cX17_nameOf 25 = .ok (.iconst 0, 1) := by decide +kernel
theorem dX17_nameOf_26 : decode cX17_nameOf 26 = .ok (.ireturn, 1) := by decide +kernel
theorem dX17_kindOf_0 : decode cX17_kindOf 0 = .ok (.aload_n 0, 1) := by decide +kernel
theorem dX17_kindOf_1 : decode cX17_kindOf 1 = .ok (.iload_n 1, 1) := by decide +kernel
theorem dX17_kindOf_2 : decode cX17_kindOf 2 = .ok (.invokevirtual 396, 3) := by decide +kernel
theorem dX17_kindOf_5 : decode cX17_kindOf 5 = .ok (.ifCond .eq 20, 3) := by decide +kernel
theorem dX17_kindOf_8 : decode cX17_kindOf 8 = .ok (.aload_n 0, 1) := by decide +kernel
theorem dX17_kindOf_9 : decode cX17_kindOf 9 = .ok (.getfield 16, 3) := by decide +kernel
theorem dX17_kindOf_12 : decode cX17_kindOf 12 = .ok (.iload_n 1, 1) := by decide +kernel
theorem dX17_kindOf_13 : decode cX17_kindOf 13 = .ok (.invokevirtual 71, 3) := by decide +kernel
theorem dX17_kindOf_16 : decode cX17_kindOf 16 = .ok (.checkcast 122, 3) := by decide +kernel
theorem dX17_kindOf_19 : decode cX17_kindOf 19 = .ok (.getfield 162, 3) := by decide +kernel
theorem dX17_kindOf_22 : decode cX17_kindOf 22 = .ok (.goto 4, 3) := by decide +kernel
theorem dX17_kindOf_25 : decode cX17_kindOf 25 = .ok (.iconst 0, 1) := by decide +kernel
theorem dX17_kindOf_26 : decode cX17_kindOf 26 = .ok (.ireturn, 1) := by decide +kernel
theorem dX17_isImmediate_0 : decode cX17_isImmediate 0 = .ok (.aload_n 0, 1) := by decide +kernel
theorem dX17_isImmediate_1 : decode cX17_isImmediate 1 = .ok (.iload_n 1, 1) := by decide +kernel
theorem dX17_isImmediate_2 : decode cX17_isImmediate 2 = .ok (.invokevirtual 396, 3) := by decide +kernel
theorem dX17_isImmediate_5 : decode cX17_isImmediate 5 = .ok (.ifCond .eq 24, 3) := by decide +kernel
theorem dX17_isImmediate_8 : decode cX17_isImmediate 8 = .ok (.aload_n 0, 1) := by decide +kernel
theorem dX17_isImmediate_9 : decode cX17_isImmediate 9 = .ok (.getfield 16, 3) := by decide +kernel
theorem dX17_isImmediate_12 : decode cX17_isImmediate 12 = .ok (.iload_n 1, 1) := by decide +kernel
theorem dX17_isImmediate_13 : decode cX17_isImmediate 13 = .ok (.invokevirtual 71, 3) := by decide +kernel
theorem dX17_isImmediate_16 : decode cX17_isImmediate 16 = .ok (.checkcast 122, 3) := by decide +kernel
theorem dX17_isImmediate_19 : decode cX17_isImmediate 19 = .ok (.getfield 307, 3) := by decide +kernel
theorem dX17_isImmediate_22 : decode cX17_isImmediate 22 = .ok (.ifCond .eq 7, 3) := by decide +kernel
theorem dX17_isImmediate_25 : decode cX17_isImmediate 25 = .ok (.iconst 1, 1) := by decide +kernel
theorem dX17_isImmediate_26 : decode cX17_isImmediate 26 = .ok (.goto 4, 3) := by decide +kernel
theorem dX17_isImmediate_29 : decode cX17_isImmediate 29 = .ok (.iconst 0, 1) := by decide +kernel
theorem dX17_isImmediate_30 : decode cX17_isImmediate 30 = .ok (.ireturn, 1) := by decide +kernel
theorem dX17_vocabularyOf_0 : decode cX17_vocabularyOf 0 = .ok (.aload_n 0, 1) := by decide +kernel
theorem dX17_vocabularyOf_1 : decode cX17_vocabularyOf 1 = .ok (.iload_n 1, 1) := by decide +kernel
theorem dX17_vocabularyOf_2 : decode cX17_vocabularyOf 2 = .ok (.invokevirtual 396, 3) := by decide +kernel
theorem dX17_vocabularyOf_5 : decode cX17_vocabularyOf 5 = .ok (.ifCond .eq 20, 3) := by decide +kernel
theorem dX17_vocabularyOf_8 : decode cX17_vocabularyOf 8 = .ok (.aload_n 0, 1) := by decide +kernel
theorem dX17_vocabularyOf_9 : decode cX17_vocabularyOf 9 = .ok (.getfield 16, 3) := by decide +kernel
theorem dX17_vocabularyOf_12 : decode cX17_vocabularyOf 12 = .ok (.iload_n 1, 1) := by decide +kernel
theorem dX17_vocabularyOf_13 : decode cX17_vocabularyOf 13 = .ok (.invokevirtual 71, 3) := by decide +kernel
theorem dX17_vocabularyOf_16 : decode cX17_vocabularyOf 16 = .ok (.checkcast 122, 3) := by decide +kernel
theorem dX17_vocabularyOf_19 : decode cX17_vocabularyOf 19 = .ok (.getfield 127, 3) := by decide +kernel
theorem dX17_vocabularyOf_22 : decode cX17_vocabularyOf 22 = .ok (.goto 4, 3) := by decide +kernel
theorem dX17_vocabularyOf_25 : decode cX17_vocabularyOf 25 = .ok (.iconst 0, 1) := by decide +kernel
theorem dX17_vocabularyOf_26 : decode cX17_vocabularyOf 26 = .ok (.ireturn, 1) := by decide +kernel
theorem dX17_find_0 : decode cX17_find 0 = .ok (.iload_n 1, 1) := by decide +kernel
theorem dX17_find_1 : decode cX17_find 1 = .ok (.iconst 0, 1) := by decide +kernel
theorem dX17_find_2 : decode cX17_find 2 = .ok (.bipush 15, 2) := by decide +kernel
theorem dX17_find_4 : decode cX17_find 4 = .ok (.invokestatic 278, 3) := by decide +kernel
theorem dX17_find_7 : decode cX17_find 7 = .ok (.ifCond .ne 9, 3) := by decide +kernel
theorem dX17_find_10 : decode cX17_find 10 = .ok (.aload_n 0, 1) := by decide +kernel
theorem dX17_find_11 : decode cX17_find 11 = .ok (.iconst 1, 1) := by decide +kernel
theorem dX17_find_12 : decode cX17_find 12 = .ok (.invokevirtual 366, 3) := by decide +kernel
theorem dX17_find_15 : decode cX17_find 15 = .ok (.ireturn, 1) := by decide +kernel
theorem dX17_find_16 : decode cX17_find 16 = .ok (.aload_n 0, 1) := by decide +kernel
theorem dX17_find_17 : decode cX17_find 17 = .ok (.iload_n 1, 1) := by decide +kernel
theorem dX17_find_18 : decode cX17_find 18 = .ok (.invokevirtual 137, 3) := by decide +kernel
theorem dX17_find_21 : decode cX17_find 21 = .ok (.istore_n 2, 1) := by decide +kernel
theorem dX17_find_22 : decode cX17_find 22 = .ok (.iload_n 2, 1) := by decide +kernel
theorem dX17_find_23 : decode cX17_find 23 = .ok (.iconst (-1), 1) := by decide +kernel
theorem dX17_find_24 : decode cX17_find 24 = .ok (.if_icmp .ne 11, 3) := by decide +kernel
theorem dX17_find_27 : decode cX17_find 27 = .ok (.aload_n 0, 1) := by decide +kernel
theorem dX17_find_28 : decode cX17_find 28 = .ok (.iconst 2, 1) := by decide +kernel
theorem dX17_find_29 : decode cX17_find 29 = .ok (.invokevirtual 366, 3) := by decide +kernel
theorem dX17_find_32 : decode cX17_find 32 = .ok (.goto 8, 3) := by decide +kernel
theorem dX17_find_35 : decode cX17_find 35 = .ok (.aload_n 0, 1) := by decide +kernel
theorem dX17_find_36 : decode cX17_find 36 = .ok (.iload_n 2, 1) := by decide +kernel
theorem dX17_find_37 : decode cX17_find 37 = .ok (.invokevirtual 369, 3) := by decide +kernel
theorem dX17_find_40 : decode cX17_find 40 = .ok (.ireturn, 1) := by decide +kernel
theorem dX17_ops_0 : decode cX17_ops 0 = .ok (.aload_n 0, 1) := by decide +kernel
theorem dX17_ops_1 : decode cX17_ops 1 = .ok (.iload_n 1, 1) := by decide +kernel
theorem dX17_ops_2 : decode cX17_ops 2 = .ok (.invokevirtual 396, 3) := by decide +kernel
theorem dX17_ops_5 : decode cX17_ops 5 = .ok (.ifCond .eq 23, 3) := by decide +kernel
theorem dX17_ops_8 : decode cX17_ops 8 = .ok (.aload_n 0, 1) := by decide +kernel
theorem dX17_ops_9 : decode cX17_ops 9 = .ok (.getfield 16, 3) := by decide +kernel
theorem dX17_ops_12 : decode cX17_ops 12 = .ok (.iload_n 1, 1) := by decide +kernel
theorem dX17_ops_13 : decode cX17_ops 13 = .ok (.invokevirtual 71, 3) := by decide +kernel
theorem dX17_ops_16 : decode cX17_ops 16 = .ok (.checkcast 122, 3) := by decide +kernel
theorem dX17_ops_19 : decode cX17_ops 19 = .ok (.getfield 149, 3) := by decide +kernel
theorem dX17_ops_22 : decode cX17_ops 22 = .ok (.invokevirtual 67, 3) := by decide +kernel
theorem dX17_ops_25 : decode cX17_ops 25 = .ok (.goto 4, 3) := by decide +kernel
theorem dX17_ops_28 : decode cX17_ops 28 = .ok (.iconst 0, 1) := by decide +kernel
theorem dX17_ops_29 : decode cX17_ops 29 = .ok (.ireturn, 1) := by decide +kernel
theorem dX17_isOp_0 : decode cX17_isOp 0 = .ok (.aload_n 0, 1) := by decide +kernel
theorem dX17_isOp_1 : decode cX17_isOp 1 = .ok (.iload_n 1, 1) := by decide +kernel
theorem dX17_isOp_2 : decode cX17_isOp 2 = .ok (.iconst 0, 1) := by decide +kernel
theorem dX17_isOp_3 : decode cX17_isOp 3 = .ok (.aload_n 0, 1) := by decide +kernel
theorem dX17_isOp_4 : decode cX17_isOp 4 = .ok (.getfield 16, 3) := by decide +kernel
theorem dX17_isOp_7 : decode cX17_isOp 7 = .ok (.invokevirtual 67, 3) := by decide +kernel
theorem dX17_isOp_10 : decode cX17_isOp 10 = .ok (.iconst 1, 1) := by decide +kernel
theorem dX17_isOp_11 : decode cX17_isOp 11 = .ok (.isub, 1) := by decide +kernel
theorem dX17_isOp_12 : decode cX17_isOp 12 = .ok (.invokestatic 278, 3) := by decide +kernel
theorem dX17_isOp_15 : decode cX17_isOp 15 = .ok (.ifCond .eq 34, 3) := by decide +kernel
theorem dX17_isOp_18 : decode cX17_isOp 18 = .ok (.iload_n 2, 1) := by decide +kernel
theorem dX17_isOp_19 : decode cX17_isOp 19 = .ok (.iconst 0, 1) := by decide +kernel
theorem dX17_isOp_20 : decode cX17_isOp 20 = .ok (.aload_n 0, 1) := by decide +kernel
theorem dX17_isOp_21 : decode cX17_isOp 21 = .ok (.getfield 16, 3) := by decide +kernel
theorem dX17_isOp_24 : decode cX17_isOp 24 = .ok (.iload_n 1, 1) := by decide +kernel
theorem dX17_isOp_25 : decode cX17_isOp 25 = .ok (.invokevirtual 71, 3) := by decide +kernel
theorem dX17_isOp_28 : decode cX17_isOp 28 = .ok (.checkcast 122, 3) := by decide +kernel
theorem dX17_isOp_31 : decode cX17_isOp 31 = .ok (.getfield 149, 3) := by decide +kernel
theorem dX17_isOp_34 : decode cX17_isOp 34 = .ok (.invokevirtual 67, 3) := by decide +kernel
theorem dX17_isOp_37 : decode cX17_isOp 37 = .ok (.iconst 1, 1) := by decide +kernel
theorem dX17_isOp_38 : decode cX17_isOp 38 = .ok (.isub, 1) := by decide +kernel
theorem dX17_isOp_39 : decode cX17_isOp 39 = .ok (.invokestatic 278, 3) := by decide +kernel
theorem dX17_isOp_42 : decode cX17_isOp 42 = .ok (.ifCond .eq 7, 3) := by decide +kernel
theorem dX17_isOp_45 : decode cX17_isOp 45 = .ok (.iconst 0, 1) := by decide +kernel
theorem dX17_isOp_46 : decode cX17_isOp 46 = .ok (.goto 4, 3) := by decide +kernel
theorem dX17_isOp_49 : decode cX17_isOp 49 = .ok (.iconst 1, 1) := by decide +kernel
theorem dX17_isOp_50 : decode cX17_isOp 50 = .ok (.putfield 60, 3) := by decide +kernel
theorem dX17_isOp_53 : decode cX17_isOp 53 = .ok (.aload_n 0, 1) := by decide +kernel
theorem dX17_isOp_54 : decode cX17_isOp 54 = .ok (.getfield 60, 3) := by decide +kernel
theorem dX17_isOp_57 : decode cX17_isOp 57 = .ok (.ifCond .ne 7, 3) := by decide +kernel
theorem dX17_isOp_60 : decode cX17_isOp 60 = .ok (.iconst 1, 1) := by decide +kernel
theorem dX17_isOp_61 : decode cX17_isOp 61 = .ok (.goto 4, 3) := by decide +kernel
theorem dX17_isOp_64 : decode cX17_isOp 64 = .ok (.iconst 0, 1) := by decide +kernel
theorem dX17_isOp_65 : decode cX17_isOp 65 = .ok (.ireturn, 1) := by decide +kernel
theorem dX17_opAt_0 : decode cX17_opAt 0 = .ok (.aload_n 0, 1) := by decide +kernel
theorem dX17_opAt_1 : decode cX17_opAt 1 = .ok (.iload_n 1, 1) := by decide +kernel
theorem dX17_opAt_2 : decode cX17_opAt 2 = .ok (.iload_n 2, 1) := by decide +kernel
theorem dX17_opAt_3 : decode cX17_opAt 3 = .ok (.invokevirtual 400, 3) := by decide +kernel
theorem dX17_opAt_6 : decode cX17_opAt 6 = .ok (.ifCond .eq 30, 3) := by decide +kernel
theorem dX17_opAt_9 : decode cX17_opAt 9 = .ok (.aload_n 0, 1) := by decide +kernel
theorem dX17_opAt_10 : decode cX17_opAt 10 = .ok (.getfield 16, 3) := by decide +kernel
theorem dX17_opAt_13 : decode cX17_opAt 13 = .ok (.iload_n 1, 1) := by decide +kernel
theorem dX17_opAt_14 : decode cX17_opAt 14 = .ok (.invokevirtual 71, 3) := by decide +kernel
theorem dX17_opAt_17 : decode cX17_opAt 17 = .ok (.checkcast 122, 3) := by decide +kernel
theorem dX17_opAt_20 : decode cX17_opAt 20 = .ok (.getfield 149, 3) := by decide +kernel
theorem dX17_opAt_23 : decode cX17_opAt 23 = .ok (.iload_n 2, 1) := by decide +kernel
theorem dX17_opAt_24 : decode cX17_opAt 24 = .ok (.invokevirtual 71, 3) := by decide +kernel
theorem dX17_opAt_27 : decode cX17_opAt 27 = .ok (.checkcast 113, 3) := by decide +kernel
theorem dX17_opAt_30 : decode cX17_opAt 30 = .ok (.getfield 115, 3) := by decide +kernel
theorem dX17_opAt_33 : decode cX17_opAt 33 = .ok (.goto 4, 3) := by decide +kernel
theorem dX17_opAt_36 : decode cX17_opAt 36 = .ok (.iconst 0, 1) := by decide +kernel
theorem dX17_opAt_37 : decode cX17_opAt 37 = .ok (.ireturn, 1) := by decide +kernel
theorem dX17_opNumber_0 : decode cX17_opNumber 0 = .ok (.aload_n 0, 1) := by decide +kernel
theorem dX17_opNumber_1 : decode cX17_opNumber 1 = .ok (.iload_n 1, 1) := by decide +kernel
theorem dX17_opNumber_2 : decode cX17_opNumber 2 = .ok (.iload_n 2, 1) := by decide +kernel
theorem dX17_opNumber_3 : decode cX17_opNumber 3 = .ok (.invokevirtual 400, 3) := by decide +kernel
theorem dX17_opNumber_6 : decode cX17_opNumber 6 = .ok (.ifCond .eq 30, 3) := by decide +kernel
theorem dX17_opNumber_9 : decode cX17_opNumber 9 = .ok (.aload_n 0, 1) := by decide +kernel
theorem dX17_opNumber_10 : decode cX17_opNumber 10 = .ok (.getfield 16, 3) := by decide +kernel
theorem dX17_opNumber_13 : decode cX17_opNumber 13 = .ok (.iload_n 1, 1) := by decide +kernel
theorem dX17_opNumber_14 : decode cX17_opNumber 14 = .ok (.invokevirtual 71, 3) := by decide +kernel
theorem dX17_opNumber_17 : decode cX17_opNumber 17 = .ok (.checkcast 122, 3) := by decide +kernel
theorem dX17_opNumber_20 : decode cX17_opNumber 20 = .ok (.getfield 149, 3) := by decide +kernel
theorem dX17_opNumber_23 : decode cX17_opNumber 23 = .ok (.iload_n 2, 1) := by decide +kernel
theorem dX17_opNumber_24 : decode cX17_opNumber 24 = .ok (.invokevirtual 71, 3) := by decide +kernel
theorem dX17_opNumber_27 : decode cX17_opNumber 27 = .ok (.checkcast 113, 3) := by decide +kernel
theorem dX17_opNumber_30 : decode cX17_opNumber 30 = .ok (.getfield 119, 3) := by decide +kernel
theorem dX17_opNumber_33 : decode cX17_opNumber 33 = .ok (.goto 4, 3) := by decide +kernel
theorem dX17_opNumber_36 : decode cX17_opNumber 36 = .ok (.iconst 0, 1) := by decide +kernel
theorem dX17_opNumber_37 : decode cX17_opNumber 37 = .ok (.ireturn, 1) := by decide +kernel
theorem dX17_effect_0 : decode cX17_effect 0 = .ok (.aload_n 0, 1) := by decide +kernel
theorem dX17_effect_1 : decode cX17_effect 1 = .ok (.iload_n 1, 1) := by decide +kernel
theorem dX17_effect_2 : decode cX17_effect 2 = .ok (.invokevirtual 396, 3) := by decide +kernel
theorem dX17_effect_5 : decode cX17_effect 5 = .ok (.ifCond .ne 5, 3) := by decide +kernel
theorem dX17_effect_8 : decode cX17_effect 8 = .ok (.iconst 0, 1) := by decide +kernel
theorem dX17_effect_9 : decode cX17_effect 9 = .ok (.ireturn, 1) := by decide +kernel
theorem dX17_effect_10 : decode cX17_effect 10 = .ok (.aload_n 0, 1) := by decide +kernel
theorem dX17_effect_11 : decode cX17_effect 11 = .ok (.invokevirtual 434, 3) := by decide +kernel
theorem dX17_effect_14 : decode cX17_effect 14 = .ok (.aload_n 0, 1) := by decide +kernel
theorem dX17_effect_15 : decode cX17_effect 15 = .ok (.getfield 53, 3) := by decide +kernel
theorem dX17_effect_18 : decode cX17_effect 18 = .ok (.iload_n 1, 1) := by decide +kernel
theorem dX17_effect_19 : decode cX17_effect 19 = .ok (.baload, 1) := by decide +kernel
theorem dX17_effect_20 : decode cX17_effect 20 = .ok (.ifCond .eq 22, 3) := by decide +kernel
theorem dX17_effect_23 : decode cX17_effect 23 = .ok (.bipush 100, 2) := by decide +kernel
theorem dX17_effect_25 : decode cX17_effect 25 = .ok (.aload_n 0, 1) := by decide +kernel
theorem dX17_effect_26 : decode cX17_effect 26 = .ok (.getfield 44, 3) := by decide +kernel
theorem dX17_effect_29 : decode cX17_effect 29 = .ok (.iload_n 1, 1) := by decide +kernel
theorem dX17_effect_30 : decode cX17_effect 30 = .ok (.iaload, 1) := by decide +kernel
theorem dX17_effect_31 : decode cX17_effect 31 = .ok (.imul, 1) := by decide +kernel
theorem dX17_effect_32 : decode cX17_effect 32 = .ok (.aload_n 0, 1) := by decide +kernel
theorem dX17_effect_33 : decode cX17_effect 33 = .ok (.getfield 47, 3) := by decide +kernel
theorem dX17_effect_36 : decode cX17_effect 36 = .ok (.iload_n 1, 1) := by decide +kernel
theorem dX17_effect_37 : decode cX17_effect 37 = .ok (.iaload, 1) := by decide +kernel
theorem dX17_effect_38 : decode cX17_effect 38 = .ok (.iadd, 1) := by decide +kernel
theorem dX17_effect_39 : decode cX17_effect 39 = .ok (.goto 8, 3) := by decide +kernel
theorem dX17_effect_42 : decode cX17_effect 42 = .ok (.aload_n 0, 1) := by decide +kernel
theorem dX17_effect_43 : decode cX17_effect 43 = .ok (.iconst 2, 1) := by decide +kernel
theorem dX17_effect_44 : decode cX17_effect 44 = .ok (.invokevirtual 366, 3) := by decide +kernel
theorem dX17_effect_47 : decode cX17_effect 47 = .ok (.ireturn, 1) := by decide +kernel
theorem dX17_isMaking_0 : decode cX17_isMaking 0 = .ok (.aload_n 0, 1) := by decide +kernel
theorem dX17_isMaking_1 : decode cX17_isMaking 1 = .ok (.iconst 0, 1) := by decide +kernel
theorem dX17_isMaking_2 : decode cX17_isMaking 2 = .ok (.putfield 60, 3) := by decide +kernel
theorem dX17_isMaking_5 : decode cX17_isMaking 5 = .ok (.aload_n 0, 1) := by decide +kernel
theorem dX17_isMaking_6 : decode cX17_isMaking 6 = .ok (.getfield 145, 3) := by decide +kernel
theorem dX17_isMaking_9 : decode cX17_isMaking 9 = .ok (.ifnull 7, 3) := by decide +kernel
theorem dX17_isMaking_12 : decode cX17_isMaking 12 = .ok (.iconst 1, 1) := by decide +kernel
theorem dX17_isMaking_13 : decode cX17_isMaking 13 = .ok (.goto 4, 3) := by decide +kernel
theorem dX17_isMaking_16 : decode cX17_isMaking 16 = .ok (.iconst 0, 1) := by decide +kernel
theorem dX17_isMaking_17 : decode cX17_isMaking 17 = .ok (.ireturn, 1) := by decide +kernel
theorem dX17_steps_0 : decode cX17_steps 0 = .ok (.aload_n 0, 1) := by decide +kernel
theorem dX17_steps_1 : decode cX17_steps 1 = .ok (.iconst 0, 1) := by decide +kernel
theorem dX17_steps_2 : decode cX17_steps 2 = .ok (.putfield 60, 3) := by decide +kernel
theorem dX17_steps_5 : decode cX17_steps 5 = .ok (.aload_n 0, 1) := by decide +kernel
theorem dX17_steps_6 : decode cX17_steps 6 = .ok (.getfield 92, 3) := by decide +kernel
theorem dX17_steps_9 : decode cX17_steps 9 = .ok (.lreturn, 1) := by decide +kernel
theorem dX17_lines_0 : decode cX17_lines 0 = .ok (.aload_n 0, 1) := by decide +kernel
theorem dX17_lines_1 : decode cX17_lines 1 = .ok (.aload_n 0, 1) := by decide +kernel
theorem dX17_lines_2 : decode cX17_lines 2 = .ok (.getfield 386, 3) := by decide +kernel
theorem dX17_lines_5 : decode cX17_lines 5 = .ok (.invokevirtual 369, 3) := by decide +kernel
theorem dX17_lines_8 : decode cX17_lines 8 = .ok (.ireturn, 1) := by decide +kernel
theorem dX17_errorShare_0 : decode cX17_errorShare 0 = .ok (.aload_n 0, 1) := by decide +kernel
theorem dX17_errorShare_1 : decode cX17_errorShare 1 = .ok (.aload_n 0, 1) := by decide +kernel
theorem dX17_errorShare_2 : decode cX17_errorShare 2 = .ok (.getfield 386, 3) := by decide +kernel
theorem dX17_errorShare_5 : decode cX17_errorShare 5 = .ok (.ifCond .ne 7, 3) := by decide +kernel
theorem dX17_errorShare_8 : decode cX17_errorShare 8 = .ok (.iconst 1, 1) := by decide +kernel
theorem dX17_errorShare_9 : decode cX17_errorShare 9 = .ok (.goto 4, 3) := by decide +kernel
theorem dX17_errorShare_12 : decode cX17_errorShare 12 = .ok (.iconst 0, 1) := by decide +kernel
theorem dX17_errorShare_13 : decode cX17_errorShare 13 = .ok (.putfield 60, 3) := by decide +kernel
theorem dX17_errorShare_16 : decode cX17_errorShare 16 = .ok (.aload_n 0, 1) := by decide +kernel
theorem dX17_errorShare_17 : decode cX17_errorShare 17 = .ok (.getfield 386, 3) := by decide +kernel
theorem dX17_errorShare_20 : decode cX17_errorShare 20 = .ok (.ifCond .ne 7, 3) := by decide +kernel
theorem dX17_errorShare_23 : decode cX17_errorShare 23 = .ok (.fconst 0, 1) := by decide +kernel
theorem dX17_errorShare_24 : decode cX17_errorShare 24 = .ok (.goto 14, 3) := by decide +kernel
theorem dX17_errorShare_27 : decode cX17_errorShare 27 = .ok (.aload_n 0, 1) := by decide +kernel
theorem dX17_errorShare_28 : decode cX17_errorShare 28 = .ok (.getfield 383, 3) := by decide +kernel
theorem dX17_errorShare_31 : decode cX17_errorShare 31 = .ok (.i2f, 1) := by decide +kernel
theorem dX17_errorShare_32 : decode cX17_errorShare 32 = .ok (.aload_n 0, 1) := by decide +kernel
theorem dX17_errorShare_33 : decode cX17_errorShare 33 = .ok (.getfield 386, 3) := by decide +kernel
theorem dX17_errorShare_36 : decode cX17_errorShare 36 = .ok (.i2f, 1) := by decide +kernel
theorem dX17_errorShare_37 : decode cX17_errorShare 37 = .ok (.fdiv, 1) := by decide +kernel
theorem dX17_errorShare_38 : decode cX17_errorShare 38 = .ok (.freturn, 1) := by decide +kernel
theorem dX17_meanSteps_0 : decode cX17_meanSteps 0 = .ok (.aload_n 0, 1) := by decide +kernel
theorem dX17_meanSteps_1 : decode cX17_meanSteps 1 = .ok (.aload_n 0, 1) := by decide +kernel
theorem dX17_meanSteps_2 : decode cX17_meanSteps 2 = .ok (.getfield 386, 3) := by decide +kernel
theorem dX17_meanSteps_5 : decode cX17_meanSteps 5 = .ok (.ifCond .ne 7, 3) := by decide +kernel
theorem dX17_meanSteps_8 : decode cX17_meanSteps 8 = .ok (.iconst 1, 1) := by decide +kernel
theorem dX17_meanSteps_9 : decode cX17_meanSteps 9 = .ok (.goto 4, 3) := by decide +kernel
theorem dX17_meanSteps_12 : decode cX17_meanSteps 12 = .ok (.iconst 0, 1) := by decide +kernel
theorem dX17_meanSteps_13 : decode cX17_meanSteps 13 = .ok (.putfield 60, 3) := by decide +kernel
theorem dX17_meanSteps_16 : decode cX17_meanSteps 16 = .ok (.aload_n 0, 1) := by decide +kernel
theorem dX17_meanSteps_17 : decode cX17_meanSteps 17 = .ok (.getfield 386, 3) := by decide +kernel
theorem dX17_meanSteps_20 : decode cX17_meanSteps 20 = .ok (.ifCond .ne 7, 3) := by decide +kernel
theorem dX17_meanSteps_23 : decode cX17_meanSteps 23 = .ok (.dconst 0, 1) := by decide +kernel
theorem dX17_meanSteps_24 : decode cX17_meanSteps 24 = .ok (.goto 14, 3) := by decide +kernel
theorem dX17_meanSteps_27 : decode cX17_meanSteps 27 = .ok (.aload_n 0, 1) := by decide +kernel
theorem dX17_meanSteps_28 : decode cX17_meanSteps 28 = .ok (.getfield 92, 3) := by decide +kernel
theorem dX17_meanSteps_31 : decode cX17_meanSteps 31 = .ok (.l2d, 1) := by decide +kernel
theorem dX17_meanSteps_32 : decode cX17_meanSteps 32 = .ok (.aload_n 0, 1) := by decide +kernel
theorem dX17_meanSteps_33 : decode cX17_meanSteps 33 = .ok (.getfield 386, 3) := by decide +kernel
theorem dX17_meanSteps_36 : decode cX17_meanSteps 36 = .ok (.i2d, 1) := by decide +kernel
theorem dX17_meanSteps_37 : decode cX17_meanSteps 37 = .ok (.ddiv, 1) := by decide +kernel
theorem dX17_meanSteps_38 : decode cX17_meanSteps 38 = .ok (.dreturn, 1) := by decide +kernel
theorem dX17_isSound_0 : decode cX17_isSound 0 = .ok (.aload_n 0, 1) := by decide +kernel
theorem dX17_isSound_1 : decode cX17_isSound 1 = .ok (.iconst 0, 1) := by decide +kernel
theorem dX17_isSound_2 : decode cX17_isSound 2 = .ok (.putfield 60, 3) := by decide +kernel
theorem dX17_isSound_5 : decode cX17_isSound 5 = .ok (.iconst 1, 1) := by decide +kernel
theorem dX17_isSound_6 : decode cX17_isSound 6 = .ok (.ireturn, 1) := by decide +kernel
theorem dJ0_length_8abf5_0 : decode cJ0_length_8abf5 0 = .ok (.aload_n 0, 1) := by decide +kernel
theorem dJ0_length_8abf5_1 : decode cJ0_length_8abf5 1 = .ok (.getfield 9, 3) := by decide +kernel
theorem dJ0_length_8abf5_4 : decode cJ0_length_8abf5 4 = .ok (.arraylength, 1) := by decide +kernel
theorem dJ0_length_8abf5_5 : decode cJ0_length_8abf5 5 = .ok (.aload_n 0, 1) := by decide +kernel
theorem dJ0_length_8abf5_6 : decode cJ0_length_8abf5 6 = .ok (.invokevirtual 335, 3) := by decide +kernel
theorem dJ0_length_8abf5_9 : decode cJ0_length_8abf5 9 = .ok (.ishr, 1) := by decide +kernel
theorem dJ0_length_8abf5_10 : decode cJ0_length_8abf5 10 = .ok (.ireturn, 1) := by decide +kernel
theorem dJ0_indexOf_0f7a4_0 : decode cJ0_indexOf_0f7a4 0 = .ok (.aload_n 0, 1) := by decide +kernel
theorem dJ0_indexOf_0f7a4_1 : decode cJ0_indexOf_0f7a4 1 = .ok (.iload_n 1, 1) := by decide +kernel
theorem dJ0_indexOf_0f7a4_2 : decode cJ0_indexOf_0f7a4 2 = .ok (.iconst 0, 1) := by decide +kernel
theorem dJ0_indexOf_0f7a4_3 : decode cJ0_indexOf_0f7a4 3 = .ok (.invokevirtual 633, 3) := by decide +kernel
theorem dJ0_indexOf_0f7a4_6 : decode cJ0_indexOf_0f7a4 6 = .ok (.ireturn, 1) := by decide +kernel
theorem dJ0_indexOf_7cf53_0 : decode cJ0_indexOf_7cf53 0 = .ok (.aload_n 0, 1) := by decide +kernel
theorem dJ0_indexOf_7cf53_1 : decode cJ0_indexOf_7cf53 1 = .ok (.invokevirtual 492, 3) := by decide +kernel
theorem dJ0_indexOf_7cf53_4 : decode cJ0_indexOf_7cf53 4 = .ok (.ifCond .eq 19, 3) := by decide +kernel
theorem dJ0_indexOf_7cf53_7 : decode cJ0_indexOf_7cf53 7 = .ok (.aload_n 0, 1) := by decide +kernel
theorem dJ0_indexOf_7cf53_8 : decode cJ0_indexOf_7cf53 8 = .ok (.getfield 9, 3) := by decide +kernel
theorem dJ0_indexOf_7cf53_11 : decode cJ0_indexOf_7cf53 11 = .ok (.iload_n 1, 1) := by decide +kernel
theorem dJ0_indexOf_7cf53_12 : decode cJ0_indexOf_7cf53 12 = .ok (.iload_n 2, 1) := by decide +kernel
theorem dJ0_indexOf_7cf53_13 : decode cJ0_indexOf_7cf53 13 = .ok (.aload_n 0, 1) := by decide +kernel
theorem dJ0_indexOf_7cf53_14 : decode cJ0_indexOf_7cf53 14 = .ok (.invokevirtual 505, 3) := by decide +kernel
theorem dJ0_indexOf_7cf53_17 : decode cJ0_indexOf_7cf53 17 = .ok (.invokestatic 637, 3) := by decide +kernel
theorem dJ0_indexOf_7cf53_20 : decode cJ0_indexOf_7cf53 20 = .ok (.goto 16, 3) := by decide +kernel
theorem dJ0_indexOf_7cf53_23 : decode cJ0_indexOf_7cf53 23 = .ok (.aload_n 0, 1) := by decide +kernel
theorem dJ0_indexOf_7cf53_24 : decode cJ0_indexOf_7cf53 24 = .ok (.getfield 9, 3) := by decide +kernel
theorem dJ0_indexOf_7cf53_27 : decode cJ0_indexOf_7cf53 27 = .ok (.iload_n 1, 1) := by decide +kernel
theorem dJ0_indexOf_7cf53_28 : decode cJ0_indexOf_7cf53 28 = .ok (.iload_n 2, 1) := by decide +kernel
theorem dJ0_indexOf_7cf53_29 : decode cJ0_indexOf_7cf53 29 = .ok (.aload_n 0, 1) := by decide +kernel
theorem dJ0_indexOf_7cf53_30 : decode cJ0_indexOf_7cf53 30 = .ok (.invokevirtual 505, 3) := by decide +kernel
theorem dJ0_indexOf_7cf53_33 : decode cJ0_indexOf_7cf53 33 = .ok (.invokestatic 640, 3) := by decide +kernel
theorem dJ0_indexOf_7cf53_36 : decode cJ0_indexOf_7cf53 36 = .ok (.ireturn, 1) := by decide +kernel
theorem dJ0_coder_7d493_0 : decode cJ0_coder_7d493 0 = .ok (.getstatic 38, 3) := by decide +kernel
theorem dJ0_coder_7d493_3 : decode cJ0_coder_7d493 3 = .ok (.ifCond .eq 10, 3) := by decide +kernel
theorem dJ0_coder_7d493_6 : decode cJ0_coder_7d493 6 = .ok (.aload_n 0, 1) := by decide +kernel
theorem dJ0_coder_7d493_7 : decode cJ0_coder_7d493 7 = .ok (.getfield 15, 3) := by decide +kernel
theorem dJ0_coder_7d493_10 : decode cJ0_coder_7d493 10 = .ok (.goto 4, 3) := by decide +kernel
theorem dJ0_coder_7d493_13 : decode cJ0_coder_7d493 13 = .ok (.iconst 1, 1) := by decide +kernel
theorem dJ0_coder_7d493_14 : decode cJ0_coder_7d493 14 = .ok (.ireturn, 1) := by decide +kernel
theorem dJ0_isLatin1_aae02_0 : decode cJ0_isLatin1_aae02 0 = .ok (.getstatic 38, 3) := by decide +kernel
theorem dJ0_isLatin1_aae02_3 : decode cJ0_isLatin1_aae02 3 = .ok (.ifCond .eq 14, 3) := by decide +kernel
theorem dJ0_isLatin1_aae02_6 : decode cJ0_isLatin1_aae02 6 = .ok (.aload_n 0, 1) := by decide +kernel
theorem dJ0_isLatin1_aae02_7 : decode cJ0_isLatin1_aae02 7 = .ok (.getfield 15, 3) := by decide +kernel
theorem dJ0_isLatin1_aae02_10 : decode cJ0_isLatin1_aae02 10 = .ok (.ifCond .ne 7, 3) := by decide +kernel
theorem dJ0_isLatin1_aae02_13 : decode cJ0_isLatin1_aae02 13 = .ok (.iconst 1, 1) := by decide +kernel
theorem dJ0_isLatin1_aae02_14 : decode cJ0_isLatin1_aae02 14 = .ok (.goto 4, 3) := by decide +kernel
theorem dJ0_isLatin1_aae02_17 : decode cJ0_isLatin1_aae02 17 = .ok (.iconst 0, 1) := by decide +kernel
theorem dJ0_isLatin1_aae02_18 : decode cJ0_isLatin1_aae02 18 = .ok (.ireturn, 1) := by decide +kernel
theorem dJ1_canEncode_9a6ad_0 : decode cJ1_canEncode_9a6ad 0 = .ok (.iload_n 0, 1) := by decide +kernel
theorem dJ1_canEncode_9a6ad_1 : decode cJ1_canEncode_9a6ad 1 = .ok (.ifCond .lt 14, 3) := by decide +kernel
theorem dJ1_canEncode_9a6ad_4 : decode cJ1_canEncode_9a6ad 4 = .ok (.iload_n 0, 1) := by decide +kernel
theorem dJ1_canEncode_9a6ad_5 : decode cJ1_canEncode_9a6ad 5 = .ok (.sipush 255, 3) := by decide +kernel
theorem dJ1_canEncode_9a6ad_8 : decode cJ1_canEncode_9a6ad 8 = .ok (.if_icmp .gt 7, 3) := by decide +kernel
theorem dJ1_canEncode_9a6ad_11 : decode cJ1_canEncode_9a6ad 11 = .ok (.iconst 1, 1) := by decide +kernel
theorem dJ1_canEncode_9a6ad_12 : decode cJ1_canEncode_9a6ad 12 = .ok (.goto 4, 3) := by decide +kernel
theorem dJ1_canEncode_9a6ad_15 : decode cJ1_canEncode_9a6ad 15 = .ok (.iconst 0, 1) := by decide +kernel
theorem dJ1_canEncode_9a6ad_16 : decode cJ1_canEncode_9a6ad 16 = .ok (.ireturn, 1) := by decide +kernel
theorem dJ1_indexOf_4cfef_0 : decode cJ1_indexOf_4cfef 0 = .ok (.iload_n 1, 1) := by decide +kernel
theorem dJ1_indexOf_4cfef_1 : decode cJ1_indexOf_4cfef 1 = .ok (.invokestatic 88, 3) := by decide +kernel
theorem dJ1_indexOf_4cfef_4 : decode cJ1_indexOf_4cfef 4 = .ok (.ifCond .ne 5, 3) := by decide +kernel
theorem dJ1_indexOf_4cfef_7 : decode cJ1_indexOf_4cfef 7 = .ok (.iconst (-1), 1) := by decide +kernel
theorem dJ1_indexOf_4cfef_8 : decode cJ1_indexOf_4cfef 8 = .ok (.ireturn, 1) := by decide +kernel
theorem dJ1_indexOf_4cfef_9 : decode cJ1_indexOf_4cfef 9 = .ok (.iload_n 2, 1) := by decide +kernel
theorem dJ1_indexOf_4cfef_10 : decode cJ1_indexOf_4cfef 10 = .ok (.iconst 0, 1) := by decide +kernel
theorem dJ1_indexOf_4cfef_11 : decode cJ1_indexOf_4cfef 11 = .ok (.invokestatic 92, 3) := by decide +kernel
theorem dJ1_indexOf_4cfef_14 : decode cJ1_indexOf_4cfef 14 = .ok (.istore_n 2, 1) := by decide +kernel
theorem dJ1_indexOf_4cfef_15 : decode cJ1_indexOf_4cfef 15 = .ok (.iload_n 3, 1) := by decide +kernel
theorem dJ1_indexOf_4cfef_16 : decode cJ1_indexOf_4cfef 16 = .ok (.aload_n 0, 1) := by decide +kernel
theorem dJ1_indexOf_4cfef_17 : decode cJ1_indexOf_4cfef 17 = .ok (.arraylength, 1) := by decide +kernel
theorem dJ1_indexOf_4cfef_18 : decode cJ1_indexOf_4cfef 18 = .ok (.invokestatic 38, 3) := by decide +kernel
theorem dJ1_indexOf_4cfef_21 : decode cJ1_indexOf_4cfef 21 = .ok (.istore_n 3, 1) := by decide +kernel
theorem dJ1_indexOf_4cfef_22 : decode cJ1_indexOf_4cfef 22 = .ok (.iload_n 2, 1) := by decide +kernel
theorem dJ1_indexOf_4cfef_23 : decode cJ1_indexOf_4cfef 23 = .ok (.iload_n 3, 1) := by decide +kernel
theorem dJ1_indexOf_4cfef_24 : decode cJ1_indexOf_4cfef 24 = .ok (.if_icmp .lt 5, 3) := by decide +kernel
theorem dJ1_indexOf_4cfef_27 : decode cJ1_indexOf_4cfef 27 = .ok (.iconst (-1), 1) := by decide +kernel
theorem dJ1_indexOf_4cfef_28 : decode cJ1_indexOf_4cfef 28 = .ok (.ireturn, 1) := by decide +kernel
theorem dJ1_indexOf_4cfef_29 : decode cJ1_indexOf_4cfef 29 = .ok (.aload_n 0, 1) := by decide +kernel
theorem dJ1_indexOf_4cfef_30 : decode cJ1_indexOf_4cfef 30 = .ok (.iload_n 1, 1) := by decide +kernel
theorem dJ1_indexOf_4cfef_31 : decode cJ1_indexOf_4cfef 31 = .ok (.iload_n 2, 1) := by decide +kernel
theorem dJ1_indexOf_4cfef_32 : decode cJ1_indexOf_4cfef 32 = .ok (.iload_n 3, 1) := by decide +kernel
theorem dJ1_indexOf_4cfef_33 : decode cJ1_indexOf_4cfef 33 = .ok (.invokestatic 95, 3) := by decide +kernel
theorem dJ1_indexOf_4cfef_36 : decode cJ1_indexOf_4cfef 36 = .ok (.ireturn, 1) := by decide +kernel
theorem dJ1_indexOfChar_4cfef_0 : decode cJ1_indexOfChar_4cfef 0 = .ok (.iload_n 1, 1) := by decide +kernel
theorem dJ1_indexOfChar_4cfef_1 : decode cJ1_indexOfChar_4cfef 1 = .ok (.i2b, 1) := by decide +kernel
theorem dJ1_indexOfChar_4cfef_2 : decode cJ1_indexOfChar_4cfef 2 = .ok (.istore 4, 2) := by decide +kernel
theorem dJ1_indexOfChar_4cfef_4 : decode cJ1_indexOfChar_4cfef 4 = .ok (.iload_n 2, 1) := by decide +kernel
theorem dJ1_indexOfChar_4cfef_5 : decode cJ1_indexOfChar_4cfef 5 = .ok (.istore 5, 2) := by decide +kernel
theorem dJ1_indexOfChar_4cfef_7 : decode cJ1_indexOfChar_4cfef 7 = .ok (.iload 5, 2) := by decide +kernel
theorem dJ1_indexOfChar_4cfef_9 : decode cJ1_indexOfChar_4cfef 9 = .ok (.iload_n 3, 1) := by decide +kernel
theorem dJ1_indexOfChar_4cfef_10 : decode cJ1_indexOfChar_4cfef 10 = .ok (.if_icmp .ge 21, 3) := by decide +kernel
theorem dJ1_indexOfChar_4cfef_13 : decode cJ1_indexOfChar_4cfef 13 = .ok (.aload_n 0, 1) := by decide +kernel
theorem dJ1_indexOfChar_4cfef_14 : decode cJ1_indexOfChar_4cfef 14 = .ok (.iload 5, 2) := by decide +kernel
theorem dJ1_indexOfChar_4cfef_16 : decode cJ1_indexOfChar_4cfef 16 = .ok (.baload, 1) := by decide +kernel
theorem dJ1_indexOfChar_4cfef_17 : decode cJ1_indexOfChar_4cfef 17 = .ok (.iload 4, 2) := by decide +kernel
theorem dJ1_indexOfChar_4cfef_19 : decode cJ1_indexOfChar_4cfef 19 = .ok (.if_icmp .ne 6, 3) := by decide +kernel
theorem dJ1_indexOfChar_4cfef_22 : decode cJ1_indexOfChar_4cfef 22 = .ok (.iload 5, 2) := by decide +kernel
theorem dJ1_indexOfChar_4cfef_24 : decode cJ1_indexOfChar_4cfef 24 = .ok (.ireturn, 1) := by decide +kernel
theorem dJ1_indexOfChar_4cfef_25 : decode cJ1_indexOfChar_4cfef 25 = .ok (.iinc 5 1, 3) := by decide +kernel
theorem dJ1_indexOfChar_4cfef_28 : decode cJ1_indexOfChar_4cfef 28 = .ok (.goto (-21), 3) := by decide +kernel
theorem dJ1_indexOfChar_4cfef_31 : decode cJ1_indexOfChar_4cfef 31 = .ok (.iconst (-1), 1) := by decide +kernel
theorem dJ1_indexOfChar_4cfef_32 : decode cJ1_indexOfChar_4cfef 32 = .ok (.ireturn, 1) := by decide +kernel
theorem dJxa1e45_init_da8c8_0 : decode cJxa1e45_init_da8c8 0 = .ok (.aload_n 0, 1) := by decide +kernel
theorem dJxa1e45_init_da8c8_1 : decode cJxa1e45_init_da8c8 1 = .ok (.invokespecial 1, 3) := by decide +kernel
theorem dJxa1e45_init_da8c8_4 : decode cJxa1e45_init_da8c8 4 = .ok (.return_, 1) := by decide +kernel
theorem dJxc12de_init_da8c8_0 : decode cJxc12de_init_da8c8 0 = .ok (.aload_n 0, 1) := by decide +kernel
theorem dJxc12de_init_da8c8_1 : decode cJxc12de_init_da8c8 1 = .ok (.invokespecial 1, 3) := by decide +kernel
theorem dJxc12de_init_da8c8_4 : decode cJxc12de_init_da8c8 4 = .ok (.aload_n 0, 1) := by decide +kernel
theorem dJxc12de_init_da8c8_5 : decode cJxc12de_init_da8c8 5 = .ok (.iconst 0, 1) := by decide +kernel
theorem dJxc12de_init_da8c8_6 : decode cJxc12de_init_da8c8 6 = .ok (.putfield 7, 3) := by decide +kernel
theorem dJxc12de_init_da8c8_9 : decode cJxc12de_init_da8c8 9 = .ok (.return_, 1) := by decide +kernel
theorem dJx4a65c_init_da8c8_0 : decode cJx4a65c_init_da8c8 0 = .ok (.aload_n 0, 1) := by decide +kernel
theorem dJx4a65c_init_da8c8_1 : decode cJx4a65c_init_da8c8 1 = .ok (.invokespecial 1, 3) := by decide +kernel
theorem dJx4a65c_init_da8c8_4 : decode cJx4a65c_init_da8c8 4 = .ok (.aload_n 0, 1) := by decide +kernel
theorem dJx4a65c_init_da8c8_5 : decode cJx4a65c_init_da8c8 5 = .ok (.getstatic 39, 3) := by decide +kernel
theorem dJx4a65c_init_da8c8_8 : decode cJx4a65c_init_da8c8 8 = .ok (.putfield 9, 3) := by decide +kernel
theorem dJx4a65c_init_da8c8_11 : decode cJx4a65c_init_da8c8 11 = .ok (.return_, 1) := by decide +kernel
theorem dJx4a65c_grow_92f84_0 : decode cJx4a65c_grow_92f84 0 = .ok (.aload_n 0, 1) := by decide +kernel
theorem dJx4a65c_grow_92f84_1 : decode cJx4a65c_grow_92f84 1 = .ok (.getfield 9, 3) := by decide +kernel
theorem dJx4a65c_grow_92f84_4 : decode cJx4a65c_grow_92f84 4 = .ok (.arraylength, 1) := by decide +kernel
theorem dJx4a65c_grow_92f84_5 : decode cJx4a65c_grow_92f84 5 = .ok (.istore_n 2, 1) := by decide +kernel
theorem dJx4a65c_grow_92f84_6 : decode cJx4a65c_grow_92f84 6 = .ok (.iload_n 2, 1) := by decide +kernel
theorem dJx4a65c_grow_92f84_7 : decode cJx4a65c_grow_92f84 7 = .ok (.ifCond .gt 13, 3) := by decide +kernel
theorem dJx4a65c_grow_92f84_10 : decode cJx4a65c_grow_92f84 10 = .ok (.aload_n 0, 1) := by decide +kernel
theorem dJx4a65c_grow_92f84_11 : decode cJx4a65c_grow_92f84 11 = .ok (.getfield 9, 3) := by decide +kernel
theorem dJx4a65c_grow_92f84_14 : decode cJx4a65c_grow_92f84 14 = .ok (.getstatic 39, 3) := by decide +kernel
theorem dJx4a65c_grow_92f84_17 : decode cJx4a65c_grow_92f84 17 = .ok (.if_acmp .eq 28, 3) := by decide +kernel
theorem dJx4a65c_grow_92f84_20 : decode cJx4a65c_grow_92f84 20 = .ok (.iload_n 2, 1) := by decide +kernel
theorem dJx4a65c_grow_92f84_21 : decode cJx4a65c_grow_92f84 21 = .ok (.iload_n 1, 1) := by decide +kernel
theorem dJx4a65c_grow_92f84_22 : decode cJx4a65c_grow_92f84 22 = .ok (.iload_n 2, 1) := by decide +kernel
theorem dJx4a65c_grow_92f84_23 : decode cJx4a65c_grow_92f84 23 = .ok (.isub, 1) := by decide +kernel
theorem dJx4a65c_grow_92f84_24 : decode cJx4a65c_grow_92f84 24 = .ok (.iload_n 2, 1) := by decide +kernel
theorem dJx4a65c_grow_92f84_25 : decode cJx4a65c_grow_92f84 25 = .ok (.iconst 1, 1) := by decide +kernel
theorem dJx4a65c_grow_92f84_26 : decode cJx4a65c_grow_92f84 26 = .ok (.ishr, 1) := by decide +kernel
theorem dJx4a65c_grow_92f84_27 : decode cJx4a65c_grow_92f84 27 = .ok (.invokestatic 73, 3) := by decide +kernel
theorem dJx4a65c_grow_92f84_30 : decode cJx4a65c_grow_92f84 30 = .ok (.istore_n 3, 1) := by decide +kernel
theorem dJx4a65c_grow_92f84_31 : decode cJx4a65c_grow_92f84 31 = .ok (.aload_n 0, 1) := by decide +kernel
theorem dJx4a65c_grow_92f84_32 : decode cJx4a65c_grow_92f84 32 = .ok (.aload_n 0, 1) := by decide +kernel
theorem dJx4a65c_grow_92f84_33 : decode cJx4a65c_grow_92f84 33 = .ok (.getfield 9, 3) := by decide +kernel
theorem dJx4a65c_grow_92f84_36 : decode cJx4a65c_grow_92f84 36 = .ok (.iload_n 3, 1) := by decide +kernel
theorem dJx4a65c_grow_92f84_37 : decode cJx4a65c_grow_92f84 37 = .ok (.invokestatic 66, 3) := by decide +kernel
theorem dJx4a65c_grow_92f84_40 : decode cJx4a65c_grow_92f84 40 = .ok (.dup_x1, 1) := by decide +kernel
theorem dJx4a65c_grow_92f84_41 : decode cJx4a65c_grow_92f84 41 = .ok (.putfield 9, 3) := by decide +kernel
theorem dJx4a65c_grow_92f84_44 : decode cJx4a65c_grow_92f84 44 = .ok (.areturn, 1) := by decide +kernel
theorem dJx4a65c_grow_92f84_45 : decode cJx4a65c_grow_92f84 45 = .ok (.aload_n 0, 1) := by decide +kernel
theorem dJx4a65c_grow_92f84_46 : decode cJx4a65c_grow_92f84 46 = .ok (.bipush 10, 2) := by decide +kernel
theorem dJx4a65c_grow_92f84_48 : decode cJx4a65c_grow_92f84 48 = .ok (.iload_n 1, 1) := by decide +kernel
theorem dJx4a65c_grow_92f84_49 : decode cJx4a65c_grow_92f84 49 = .ok (.invokestatic 79, 3) := by decide +kernel
theorem dJx4a65c_grow_92f84_52 : decode cJx4a65c_grow_92f84 52 = .ok (.anewarray 7, 3) := by decide +kernel
theorem dJx4a65c_grow_92f84_55 : decode cJx4a65c_grow_92f84 55 = .ok (.dup_x1, 1) := by decide +kernel
theorem dJx4a65c_grow_92f84_56 : decode cJx4a65c_grow_92f84 56 = .ok (.putfield 9, 3) := by decide +kernel
theorem dJx4a65c_grow_92f84_59 : decode cJx4a65c_grow_92f84 59 = .ok (.areturn, 1) := by decide +kernel
theorem dJx4a65c_grow_d5877_0 : decode cJx4a65c_grow_d5877 0 = .ok (.aload_n 0, 1) := by decide +kernel
theorem dJx4a65c_grow_d5877_1 : decode cJx4a65c_grow_d5877 1 = .ok (.aload_n 0, 1) := by decide +kernel
theorem dJx4a65c_grow_d5877_2 : decode cJx4a65c_grow_d5877 2 = .ok (.getfield 48, 3) := by decide +kernel
theorem dJx4a65c_grow_d5877_5 : decode cJx4a65c_grow_d5877 5 = .ok (.iconst 1, 1) := by decide +kernel
theorem dJx4a65c_grow_d5877_6 : decode cJx4a65c_grow_d5877 6 = .ok (.iadd, 1) := by decide +kernel
theorem dJx4a65c_grow_d5877_7 : decode cJx4a65c_grow_d5877 7 = .ok (.invokevirtual 69, 3) := by decide +kernel
theorem dJx4a65c_grow_d5877_10 : decode cJx4a65c_grow_d5877 10 = .ok (.areturn, 1) := by decide +kernel
theorem dJx4a65c_size_8abf5_0 : decode cJx4a65c_size_8abf5 0 = .ok (.aload_n 0, 1) := by decide +kernel
theorem dJx4a65c_size_8abf5_1 : decode cJx4a65c_size_8abf5 1 = .ok (.getfield 48, 3) := by decide +kernel
theorem dJx4a65c_size_8abf5_4 : decode cJx4a65c_size_8abf5 4 = .ok (.ireturn, 1) := by decide +kernel
theorem dJx4a65c_add_72be8_0 : decode cJx4a65c_add_72be8 0 = .ok (.iload_n 3, 1) := by decide +kernel
theorem dJx4a65c_add_72be8_1 : decode cJx4a65c_add_72be8 1 = .ok (.aload_n 2, 1) := by decide +kernel
theorem dJx4a65c_add_72be8_2 : decode cJx4a65c_add_72be8 2 = .ok (.arraylength, 1) := by decide +kernel
theorem dJx4a65c_add_72be8_3 : decode cJx4a65c_add_72be8 3 = .ok (.if_icmp .ne 8, 3) := by decide +kernel
theorem dJx4a65c_add_72be8_6 : decode cJx4a65c_add_72be8 6 = .ok (.aload_n 0, 1) := by decide +kernel
theorem dJx4a65c_add_72be8_7 : decode cJx4a65c_add_72be8 7 = .ok (.invokevirtual 129, 3) := by decide +kernel
theorem dJx4a65c_add_72be8_10 : decode cJx4a65c_add_72be8 10 = .ok (.astore_n 2, 1) := by decide +kernel
theorem dJx4a65c_add_72be8_11 : decode cJx4a65c_add_72be8 11 = .ok (.aload_n 2, 1) := by decide +kernel
theorem dJx4a65c_add_72be8_12 : decode cJx4a65c_add_72be8 12 = .ok (.iload_n 3, 1) := by decide +kernel
theorem dJx4a65c_add_72be8_13 : decode cJx4a65c_add_72be8 13 = .ok (.aload_n 1, 1) := by decide +kernel
theorem dJx4a65c_add_72be8_14 : decode cJx4a65c_add_72be8 14 = .ok (.aastore, 1) := by decide +kernel
theorem dJx4a65c_add_72be8_15 : decode cJx4a65c_add_72be8 15 = .ok (.aload_n 0, 1) := by decide +kernel
theorem dJx4a65c_add_72be8_16 : decode cJx4a65c_add_72be8 16 = .ok (.iload_n 3, 1) := by decide +kernel
theorem dJx4a65c_add_72be8_17 : decode cJx4a65c_add_72be8 17 = .ok (.iconst 1, 1) := by decide +kernel
theorem dJx4a65c_add_72be8_18 : decode cJx4a65c_add_72be8 18 = .ok (.iadd, 1) := by decide +kernel
theorem dJx4a65c_add_72be8_19 : decode cJx4a65c_add_72be8 19 = .ok (.putfield 48, 3) := by decide +kernel
theorem dJx4a65c_add_72be8_22 : decode cJx4a65c_add_72be8 22 = .ok (.return_, 1) := by decide +kernel
theorem dJx4a65c_add_9ea2d_0 : decode cJx4a65c_add_9ea2d 0 = .ok (.aload_n 0, 1) := by decide +kernel
theorem dJx4a65c_add_9ea2d_1 : decode cJx4a65c_add_9ea2d 1 = .ok (.dup, 1) := by decide +kernel
theorem dJx4a65c_add_9ea2d_2 : decode cJx4a65c_add_9ea2d 2 = .ok (.getfield 63, 3) := by decide +kernel
theorem dJx4a65c_add_9ea2d_5 : decode cJx4a65c_add_9ea2d 5 = .ok (.iconst 1, 1) := by decide +kernel
theorem dJx4a65c_add_9ea2d_6 : decode cJx4a65c_add_9ea2d 6 = .ok (.iadd, 1) := by decide +kernel
theorem dJx4a65c_add_9ea2d_7 : decode cJx4a65c_add_9ea2d 7 = .ok (.putfield 63, 3) := by decide +kernel
theorem dJx4a65c_add_9ea2d_10 : decode cJx4a65c_add_9ea2d 10 = .ok (.aload_n 0, 1) := by decide +kernel
theorem dJx4a65c_add_9ea2d_11 : decode cJx4a65c_add_9ea2d 11 = .ok (.aload_n 1, 1) := by decide +kernel
theorem dJx4a65c_add_9ea2d_12 : decode cJx4a65c_add_9ea2d 12 = .ok (.aload_n 0, 1) := by decide +kernel
theorem dJx4a65c_add_9ea2d_13 : decode cJx4a65c_add_9ea2d 13 = .ok (.getfield 9, 3) := by decide +kernel
theorem dJx4a65c_add_9ea2d_16 : decode cJx4a65c_add_9ea2d 16 = .ok (.aload_n 0, 1) := by decide +kernel
theorem dJx4a65c_add_9ea2d_17 : decode cJx4a65c_add_9ea2d 17 = .ok (.getfield 48, 3) := by decide +kernel
theorem dJx4a65c_add_9ea2d_20 : decode cJx4a65c_add_9ea2d 20 = .ok (.invokevirtual 131, 3) := by decide +kernel
theorem dJx4a65c_add_9ea2d_23 : decode cJx4a65c_add_9ea2d 23 = .ok (.iconst 1, 1) := by decide +kernel
theorem dJx4a65c_add_9ea2d_24 : decode cJx4a65c_add_9ea2d 24 = .ok (.ireturn, 1) := by decide +kernel
theorem dJx4a65c_clear_da8c8_0 : decode cJx4a65c_clear_da8c8 0 = .ok (.aload_n 0, 1) := by decide +kernel
theorem dJx4a65c_clear_da8c8_1 : decode cJx4a65c_clear_da8c8 1 = .ok (.dup, 1) := by decide +kernel
theorem dJx4a65c_clear_da8c8_2 : decode cJx4a65c_clear_da8c8 2 = .ok (.getfield 63, 3) := by decide +kernel
theorem dJx4a65c_clear_da8c8_5 : decode cJx4a65c_clear_da8c8 5 = .ok (.iconst 1, 1) := by decide +kernel
theorem dJx4a65c_clear_da8c8_6 : decode cJx4a65c_clear_da8c8 6 = .ok (.iadd, 1) := by decide +kernel
theorem dJx4a65c_clear_da8c8_7 : decode cJx4a65c_clear_da8c8 7 = .ok (.putfield 63, 3) := by decide +kernel
theorem dJx4a65c_clear_da8c8_10 : decode cJx4a65c_clear_da8c8 10 = .ok (.aload_n 0, 1) := by decide +kernel
theorem dJx4a65c_clear_da8c8_11 : decode cJx4a65c_clear_da8c8 11 = .ok (.getfield 9, 3) := by decide +kernel
theorem dJx4a65c_clear_da8c8_14 : decode cJx4a65c_clear_da8c8 14 = .ok (.astore_n 1, 1) := by decide +kernel
theorem dJx4a65c_clear_da8c8_15 : decode cJx4a65c_clear_da8c8 15 = .ok (.aload_n 0, 1) := by decide +kernel
theorem dJx4a65c_clear_da8c8_16 : decode cJx4a65c_clear_da8c8 16 = .ok (.getfield 48, 3) := by decide +kernel
theorem dJx4a65c_clear_da8c8_19 : decode cJx4a65c_clear_da8c8 19 = .ok (.istore_n 2, 1) := by decide +kernel
theorem dJx4a65c_clear_da8c8_20 : decode cJx4a65c_clear_da8c8 20 = .ok (.aload_n 0, 1) := by decide +kernel
theorem dJx4a65c_clear_da8c8_21 : decode cJx4a65c_clear_da8c8 21 = .ok (.iconst 0, 1) := by decide +kernel
theorem dJx4a65c_clear_da8c8_22 : decode cJx4a65c_clear_da8c8 22 = .ok (.dup_x1, 1) := by decide +kernel
theorem dJx4a65c_clear_da8c8_23 : decode cJx4a65c_clear_da8c8 23 = .ok (.putfield 48, 3) := by decide +kernel
theorem dJx4a65c_clear_da8c8_26 : decode cJx4a65c_clear_da8c8 26 = .ok (.istore_n 3, 1) := by decide +kernel
theorem dJx4a65c_clear_da8c8_27 : decode cJx4a65c_clear_da8c8 27 = .ok (.iload_n 3, 1) := by decide +kernel
theorem dJx4a65c_clear_da8c8_28 : decode cJx4a65c_clear_da8c8 28 = .ok (.iload_n 2, 1) := by decide +kernel
theorem dJx4a65c_clear_da8c8_29 : decode cJx4a65c_clear_da8c8 29 = .ok (.if_icmp .ge 13, 3) := by decide +kernel
theorem dJx4a65c_clear_da8c8_32 : decode cJx4a65c_clear_da8c8 32 = .ok (.aload_n 1, 1) := by decide +kernel
theorem dJx4a65c_clear_da8c8_33 : decode cJx4a65c_clear_da8c8 33 = .ok (.iload_n 3, 1) := by decide +kernel
theorem dJx4a65c_clear_da8c8_34 : decode cJx4a65c_clear_da8c8 34 = .ok (.aconst_null, 1) := by decide +kernel
theorem dJx4a65c_clear_da8c8_35 : decode cJx4a65c_clear_da8c8 35 = .ok (.aastore, 1) := by decide +kernel
theorem dJx4a65c_clear_da8c8_36 : decode cJx4a65c_clear_da8c8 36 = .ok (.iinc 3 1, 3) := by decide +kernel
theorem dJx4a65c_clear_da8c8_39 : decode cJx4a65c_clear_da8c8 39 = .ok (.goto (-12), 3) := by decide +kernel
theorem dJx4a65c_clear_da8c8_42 : decode cJx4a65c_clear_da8c8 42 = .ok (.return_, 1) := by decide +kernel
theorem dL_word_0 : decode cL_word 0 = .ok (.aload_n 2, 1) := by decide +kernel
theorem dL_word_1 : decode cL_word 1 = .ok (.iconst 0, 1) := by decide +kernel
theorem dL_word_2 : decode cL_word 2 = .ok (.aload_n 0, 1) := by decide +kernel
theorem dL_word_3 : decode cL_word 3 = .ok (.iload_n 1, 1) := by decide +kernel
theorem dL_word_4 : decode cL_word 4 = .ok (.invokevirtual 7, 3) := by decide +kernel
theorem dL_word_7 : decode cL_word 7 = .ok (.i2l, 1) := by decide +kernel
theorem dL_word_8 : decode cL_word 8 = .ok (.lastore, 1) := by decide +kernel
theorem dL_word_9 : decode cL_word 9 = .ok (.goto 9, 3) := by decide +kernel
theorem dL_word_12 : decode cL_word 12 = .ok (.astore_n 3, 1) := by decide +kernel
theorem dL_word_13 : decode cL_word 13 = .ok (.iconst 1, 1) := by decide +kernel
theorem dL_word_14 : decode cL_word 14 = .ok (.ireturn, 1) := by decide +kernel
theorem dL_word_15 : decode cL_word 15 = .ok (.astore_n 3, 1) := by decide +kernel
theorem dL_word_16 : decode cL_word 16 = .ok (.iconst 2, 1) := by decide +kernel
theorem dL_word_17 : decode cL_word 17 = .ok (.ireturn, 1) := by decide +kernel
theorem dL_word_18 : decode cL_word 18 = .ok (.iconst 0, 1) := by decide +kernel
theorem dL_word_19 : decode cL_word 19 = .ok (.ireturn, 1) := by decide +kernel
theorem dL_name_0 : decode cL_name 0 = .ok (.aload_n 2, 1) := by decide +kernel
theorem dL_name_1 : decode cL_name 1 = .ok (.iconst 0, 1) := by decide +kernel
theorem dL_name_2 : decode cL_name 2 = .ok (.aload_n 0, 1) := by decide +kernel
theorem dL_name_3 : decode cL_name 3 = .ok (.iload_n 1, 1) := by decide +kernel
theorem dL_name_4 : decode cL_name 4 = .ok (.invokevirtual 17, 3) := by decide +kernel
theorem dL_name_7 : decode cL_name 7 = .ok (.i2l, 1) := by decide +kernel
theorem dL_name_8 : decode cL_name 8 = .ok (.lastore, 1) := by decide +kernel
theorem dL_name_9 : decode cL_name 9 = .ok (.goto 9, 3) := by decide +kernel
theorem dL_name_12 : decode cL_name 12 = .ok (.astore_n 3, 1) := by decide +kernel
theorem dL_name_13 : decode cL_name 13 = .ok (.iconst 1, 1) := by decide +kernel
theorem dL_name_14 : decode cL_name 14 = .ok (.ireturn, 1) := by decide +kernel
theorem dL_name_15 : decode cL_name 15 = .ok (.astore_n 3, 1) := by decide +kernel
theorem dL_name_16 : decode cL_name 16 = .ok (.iconst 2, 1) := by decide +kernel
theorem dL_name_17 : decode cL_name 17 = .ok (.ireturn, 1) := by decide +kernel
theorem dL_name_18 : decode cL_name 18 = .ok (.iconst 0, 1) := by decide +kernel
theorem dL_name_19 : decode cL_name 19 = .ok (.ireturn, 1) := by decide +kernel
theorem dL_number_0 : decode cL_number 0 = .ok (.aload_n 2, 1) := by decide +kernel
theorem dL_number_1 : decode cL_number 1 = .ok (.iconst 0, 1) := by decide +kernel
theorem dL_number_2 : decode cL_number 2 = .ok (.aload_n 0, 1) := by decide +kernel
theorem dL_number_3 : decode cL_number 3 = .ok (.iload_n 1, 1) := by decide +kernel
theorem dL_number_4 : decode cL_number 4 = .ok (.invokevirtual 21, 3) := by decide +kernel
theorem dL_number_7 : decode cL_number 7 = .ok (.i2l, 1) := by decide +kernel
theorem dL_number_8 : decode cL_number 8 = .ok (.lastore, 1) := by decide +kernel
theorem dL_number_9 : decode cL_number 9 = .ok (.goto 6, 3) := by decide +kernel
theorem dL_number_12 : decode cL_number 12 = .ok (.astore_n 3, 1) := by decide +kernel
theorem dL_number_13 : decode cL_number 13 = .ok (.iconst 1, 1) := by decide +kernel
theorem dL_number_14 : decode cL_number 14 = .ok (.ireturn, 1) := by decide +kernel
theorem dL_number_15 : decode cL_number 15 = .ok (.iconst 0, 1) := by decide +kernel
theorem dL_number_16 : decode cL_number 16 = .ok (.ireturn, 1) := by decide +kernel
theorem dL_error_0 : decode cL_error 0 = .ok (.aload_n 1, 1) := by decide +kernel
theorem dL_error_1 : decode cL_error 1 = .ok (.iconst 0, 1) := by decide +kernel
theorem dL_error_2 : decode cL_error 2 = .ok (.aload_n 0, 1) := by decide +kernel
theorem dL_error_3 : decode cL_error 3 = .ok (.invokevirtual 24, 3) := by decide +kernel
theorem dL_error_6 : decode cL_error 6 = .ok (.i2l, 1) := by decide +kernel
theorem dL_error_7 : decode cL_error 7 = .ok (.lastore, 1) := by decide +kernel
theorem dL_error_8 : decode cL_error 8 = .ok (.goto 6, 3) := by decide +kernel
theorem dL_error_11 : decode cL_error 11 = .ok (.astore_n 2, 1) := by decide +kernel
theorem dL_error_12 : decode cL_error 12 = .ok (.iconst 1, 1) := by decide +kernel
theorem dL_error_13 : decode cL_error 13 = .ok (.ireturn, 1) := by decide +kernel
theorem dL_error_14 : decode cL_error 14 = .ok (.iconst 0, 1) := by decide +kernel
theorem dL_error_15 : decode cL_error 15 = .ok (.ireturn, 1) := by decide +kernel
theorem dL_traceAt_0 : decode cL_traceAt 0 = .ok (.aload_n 2, 1) := by decide +kernel
theorem dL_traceAt_1 : decode cL_traceAt 1 = .ok (.iconst 0, 1) := by decide +kernel
theorem dL_traceAt_2 : decode cL_traceAt 2 = .ok (.aload_n 0, 1) := by decide +kernel
theorem dL_traceAt_3 : decode cL_traceAt 3 = .ok (.iload_n 1, 1) := by decide +kernel
theorem dL_traceAt_4 : decode cL_traceAt 4 = .ok (.invokevirtual 30, 3) := by decide +kernel
theorem dL_traceAt_7 : decode cL_traceAt 7 = .ok (.i2l, 1) := by decide +kernel
theorem dL_traceAt_8 : decode cL_traceAt 8 = .ok (.lastore, 1) := by decide +kernel
theorem dL_traceAt_9 : decode cL_traceAt 9 = .ok (.goto 6, 3) := by decide +kernel
theorem dL_traceAt_12 : decode cL_traceAt 12 = .ok (.astore_n 3, 1) := by decide +kernel
theorem dL_traceAt_13 : decode cL_traceAt 13 = .ok (.iconst 1, 1) := by decide +kernel
theorem dL_traceAt_14 : decode cL_traceAt 14 = .ok (.ireturn, 1) := by decide +kernel
theorem dL_traceAt_15 : decode cL_traceAt 15 = .ok (.iconst 0, 1) := by decide +kernel
theorem dL_traceAt_16 : decode cL_traceAt 16 = .ok (.ireturn, 1) := by decide +kernel
theorem dL_at_0 : decode cL_at 0 = .ok (.aload_n 2, 1) := by decide +kernel
theorem dL_at_1 : decode cL_at 1 = .ok (.iconst 0, 1) := by decide +kernel
theorem dL_at_2 : decode cL_at 2 = .ok (.aload_n 0, 1) := by decide +kernel
theorem dL_at_3 : decode cL_at 3 = .ok (.iload_n 1, 1) := by decide +kernel
theorem dL_at_4 : decode cL_at 4 = .ok (.invokevirtual 35, 3) := by decide +kernel
theorem dL_at_7 : decode cL_at 7 = .ok (.i2l, 1) := by decide +kernel
theorem dL_at_8 : decode cL_at 8 = .ok (.lastore, 1) := by decide +kernel
theorem dL_at_9 : decode cL_at 9 = .ok (.goto 6, 3) := by decide +kernel
theorem dL_at_12 : decode cL_at 12 = .ok (.astore_n 3, 1) := by decide +kernel
theorem dL_at_13 : decode cL_at 13 = .ok (.iconst 1, 1) := by decide +kernel
theorem dL_at_14 : decode cL_at 14 = .ok (.ireturn, 1) := by decide +kernel
theorem dL_at_15 : decode cL_at 15 = .ok (.iconst 0, 1) := by decide +kernel
theorem dL_at_16 : decode cL_at 16 = .ok (.ireturn, 1) := by decide +kernel
theorem dL_cell_0 : decode cL_cell 0 = .ok (.aload_n 2, 1) := by decide +kernel
theorem dL_cell_1 : decode cL_cell 1 = .ok (.iconst 0, 1) := by decide +kernel
theorem dL_cell_2 : decode cL_cell 2 = .ok (.aload_n 0, 1) := by decide +kernel
theorem dL_cell_3 : decode cL_cell 3 = .ok (.iload_n 1, 1) := by decide +kernel
theorem dL_cell_4 : decode cL_cell 4 = .ok (.invokevirtual 38, 3) := by decide +kernel
theorem dL_cell_7 : decode cL_cell 7 = .ok (.i2l, 1) := by decide +kernel
theorem dL_cell_8 : decode cL_cell 8 = .ok (.lastore, 1) := by decide +kernel
theorem dL_cell_9 : decode cL_cell 9 = .ok (.goto 6, 3) := by decide +kernel
theorem dL_cell_12 : decode cL_cell 12 = .ok (.astore_n 3, 1) := by decide +kernel
theorem dL_cell_13 : decode cL_cell 13 = .ok (.iconst 1, 1) := by decide +kernel
theorem dL_cell_14 : decode cL_cell 14 = .ok (.ireturn, 1) := by decide +kernel
theorem dL_cell_15 : decode cL_cell 15 = .ok (.iconst 0, 1) := by decide +kernel
theorem dL_cell_16 : decode cL_cell 16 = .ok (.ireturn, 1) := by decide +kernel
theorem dL_outAt_0 : decode cL_outAt 0 = .ok (.aload_n 2, 1) := by decide +kernel
theorem dL_outAt_1 : decode cL_outAt 1 = .ok (.iconst 0, 1) := by decide +kernel
theorem dL_outAt_2 : decode cL_outAt 2 = .ok (.aload_n 0, 1) := by decide +kernel
theorem dL_outAt_3 : decode cL_outAt 3 = .ok (.iload_n 1, 1) := by decide +kernel
theorem dL_outAt_4 : decode cL_outAt 4 = .ok (.invokevirtual 41, 3) := by decide +kernel
theorem dL_outAt_7 : decode cL_outAt 7 = .ok (.i2l, 1) := by decide +kernel
theorem dL_outAt_8 : decode cL_outAt 8 = .ok (.lastore, 1) := by decide +kernel
theorem dL_outAt_9 : decode cL_outAt 9 = .ok (.goto 6, 3) := by decide +kernel
theorem dL_outAt_12 : decode cL_outAt 12 = .ok (.astore_n 3, 1) := by decide +kernel
theorem dL_outAt_13 : decode cL_outAt 13 = .ok (.iconst 1, 1) := by decide +kernel
theorem dL_outAt_14 : decode cL_outAt 14 = .ok (.ireturn, 1) := by decide +kernel
theorem dL_outAt_15 : decode cL_outAt 15 = .ok (.iconst 0, 1) := by decide +kernel
theorem dL_outAt_16 : decode cL_outAt 16 = .ok (.ireturn, 1) := by decide +kernel
theorem dL_nameOf_0 : decode cL_nameOf 0 = .ok (.aload_n 2, 1) := by decide +kernel
theorem dL_nameOf_1 : decode cL_nameOf 1 = .ok (.iconst 0, 1) := by decide +kernel
theorem dL_nameOf_2 : decode cL_nameOf 2 = .ok (.aload_n 0, 1) := by decide +kernel
theorem dL_nameOf_3 : decode cL_nameOf 3 = .ok (.iload_n 1, 1) := by decide +kernel
theorem dL_nameOf_4 : decode cL_nameOf 4 = .ok (.invokevirtual 44, 3) := by decide +kernel
theorem dL_nameOf_7 : decode cL_nameOf 7 = .ok (.i2l, 1) := by decide +kernel
theorem dL_nameOf_8 : decode cL_nameOf 8 = .ok (.lastore, 1) := by decide +kernel
theorem dL_nameOf_9 : decode cL_nameOf 9 = .ok (.goto 6, 3) := by decide +kernel
theorem dL_nameOf_12 : decode cL_nameOf 12 = .ok (.astore_n 3, 1) := by decide +kernel
theorem dL_nameOf_13 : decode cL_nameOf 13 = .ok (.iconst 1, 1) := by decide +kernel
theorem dL_nameOf_14 : decode cL_nameOf 14 = .ok (.ireturn, 1) := by decide +kernel
theorem dL_nameOf_15 : decode cL_nameOf 15 = .ok (.iconst 0, 1) := by decide +kernel
theorem dL_nameOf_16 : decode cL_nameOf 16 = .ok (.ireturn, 1) := by decide +kernel
theorem dL_kindOf_0 : decode cL_kindOf 0 = .ok (.aload_n 2, 1) := by decide +kernel
theorem dL_kindOf_1 : decode cL_kindOf 1 = .ok (.iconst 0, 1) := by decide +kernel
theorem dL_kindOf_2 : decode cL_kindOf 2 = .ok (.aload_n 0, 1) := by decide +kernel
theorem dL_kindOf_3 : decode cL_kindOf 3 = .ok (.iload_n 1, 1) := by decide +kernel
theorem dL_kindOf_4 : decode cL_kindOf 4 = .ok (.invokevirtual 47, 3) := by decide +kernel
theorem dL_kindOf_7 : decode cL_kindOf 7 = .ok (.i2l, 1) := by decide +kernel
theorem dL_kindOf_8 : decode cL_kindOf 8 = .ok (.lastore, 1) := by decide +kernel
theorem dL_kindOf_9 : decode cL_kindOf 9 = .ok (.goto 6, 3) := by decide +kernel
theorem dL_kindOf_12 : decode cL_kindOf 12 = .ok (.astore_n 3, 1) := by decide +kernel
theorem dL_kindOf_13 : decode cL_kindOf 13 = .ok (.iconst 1, 1) := by decide +kernel
theorem dL_kindOf_14 : decode cL_kindOf 14 = .ok (.ireturn, 1) := by decide +kernel
theorem dL_kindOf_15 : decode cL_kindOf 15 = .ok (.iconst 0, 1) := by decide +kernel
theorem dL_kindOf_16 : decode cL_kindOf 16 = .ok (.ireturn, 1) := by decide +kernel
theorem dL_isImmediate_0 : decode cL_isImmediate 0 = .ok (.aload_n 2, 1) := by decide +kernel
theorem dL_isImmediate_1 : decode cL_isImmediate 1 = .ok (.iconst 0, 1) := by decide +kernel
theorem dL_isImmediate_2 : decode cL_isImmediate 2 = .ok (.aload_n 0, 1) := by decide +kernel
theorem dL_isImmediate_3 : decode cL_isImmediate 3 = .ok (.iload_n 1, 1) := by decide +kernel
theorem dL_isImmediate_4 : decode cL_isImmediate 4 = .ok (.invokevirtual 51, 3) := by decide +kernel
theorem dL_isImmediate_7 : decode cL_isImmediate 7 = .ok (.ifCond .eq 7, 3) := by decide +kernel
theorem dL_isImmediate_10 : decode cL_isImmediate 10 = .ok (.lconst 1, 1) := by decide +kernel
theorem dL_isImmediate_11 : decode cL_isImmediate 11 = .ok (.goto 4, 3) := by decide +kernel
theorem dL_isImmediate_14 : decode cL_isImmediate 14 = .ok (.lconst 0, 1) := by decide +kernel
theorem dL_isImmediate_15 : decode cL_isImmediate 15 = .ok (.lastore, 1) := by decide +kernel
theorem dL_isImmediate_16 : decode cL_isImmediate 16 = .ok (.goto 6, 3) := by decide +kernel
theorem dL_isImmediate_19 : decode cL_isImmediate 19 = .ok (.astore_n 3, 1) := by decide +kernel
theorem dL_isImmediate_20 : decode cL_isImmediate 20 = .ok (.iconst 1, 1) := by decide +kernel
theorem dL_isImmediate_21 : decode cL_isImmediate 21 = .ok (.ireturn, 1) := by decide +kernel
theorem dL_isImmediate_22 : decode cL_isImmediate 22 = .ok (.iconst 0, 1) := by decide +kernel
theorem dL_isImmediate_23 : decode cL_isImmediate 23 = .ok (.ireturn, 1) := by decide +kernel
theorem dL_vocabularyOf_0 : decode cL_vocabularyOf 0 = .ok (.aload_n 2, 1) := by decide +kernel
theorem dL_vocabularyOf_1 : decode cL_vocabularyOf 1 = .ok (.iconst 0, 1) := by decide +kernel
theorem dL_vocabularyOf_2 : decode cL_vocabularyOf 2 = .ok (.aload_n 0, 1) := by decide +kernel
theorem dL_vocabularyOf_3 : decode cL_vocabularyOf 3 = .ok (.iload_n 1, 1) := by decide +kernel
theorem dL_vocabularyOf_4 : decode cL_vocabularyOf 4 = .ok (.invokevirtual 55, 3) := by decide +kernel
theorem dL_vocabularyOf_7 : decode cL_vocabularyOf 7 = .ok (.i2l, 1) := by decide +kernel
theorem dL_vocabularyOf_8 : decode cL_vocabularyOf 8 = .ok (.lastore, 1) := by decide +kernel
theorem dL_vocabularyOf_9 : decode cL_vocabularyOf 9 = .ok (.goto 6, 3) := by decide +kernel
theorem dL_vocabularyOf_12 : decode cL_vocabularyOf 12 = .ok (.astore_n 3, 1) := by decide +kernel
theorem dL_vocabularyOf_13 : decode cL_vocabularyOf 13 = .ok (.iconst 1, 1) := by decide +kernel
theorem dL_vocabularyOf_14 : decode cL_vocabularyOf 14 = .ok (.ireturn, 1) := by decide +kernel
theorem dL_vocabularyOf_15 : decode cL_vocabularyOf 15 = .ok (.iconst 0, 1) := by decide +kernel
theorem dL_vocabularyOf_16 : decode cL_vocabularyOf 16 = .ok (.ireturn, 1) := by decide +kernel
theorem dL_find_0 : decode cL_find 0 = .ok (.aload_n 2, 1) := by decide +kernel
theorem dL_find_1 : decode cL_find 1 = .ok (.iconst 0, 1) := by decide +kernel
theorem dL_find_2 : decode cL_find 2 = .ok (.aload_n 0, 1) := by decide +kernel
theorem dL_find_3 : decode cL_find 3 = .ok (.iload_n 1, 1) := by decide +kernel
theorem dL_find_4 : decode cL_find 4 = .ok (.invokevirtual 58, 3) := by decide +kernel
theorem dL_find_7 : decode cL_find 7 = .ok (.i2l, 1) := by decide +kernel
theorem dL_find_8 : decode cL_find 8 = .ok (.lastore, 1) := by decide +kernel
theorem dL_find_9 : decode cL_find 9 = .ok (.goto 9, 3) := by decide +kernel
theorem dL_find_12 : decode cL_find 12 = .ok (.astore_n 3, 1) := by decide +kernel
theorem dL_find_13 : decode cL_find 13 = .ok (.iconst 1, 1) := by decide +kernel
theorem dL_find_14 : decode cL_find 14 = .ok (.ireturn, 1) := by decide +kernel
theorem dL_find_15 : decode cL_find 15 = .ok (.astore_n 3, 1) := by decide +kernel
theorem dL_find_16 : decode cL_find 16 = .ok (.iconst 2, 1) := by decide +kernel
theorem dL_find_17 : decode cL_find 17 = .ok (.ireturn, 1) := by decide +kernel
theorem dL_find_18 : decode cL_find 18 = .ok (.iconst 0, 1) := by decide +kernel
theorem dL_find_19 : decode cL_find 19 = .ok (.ireturn, 1) := by decide +kernel
theorem dL_ops_0 : decode cL_ops 0 = .ok (.aload_n 2, 1) := by decide +kernel
theorem dL_ops_1 : decode cL_ops 1 = .ok (.iconst 0, 1) := by decide +kernel
theorem dL_ops_2 : decode cL_ops 2 = .ok (.aload_n 0, 1) := by decide +kernel
theorem dL_ops_3 : decode cL_ops 3 = .ok (.iload_n 1, 1) := by decide +kernel
theorem dL_ops_4 : decode cL_ops 4 = .ok (.invokevirtual 61, 3) := by decide +kernel
theorem dL_ops_7 : decode cL_ops 7 = .ok (.i2l, 1) := by decide +kernel
theorem dL_ops_8 : decode cL_ops 8 = .ok (.lastore, 1) := by decide +kernel
theorem dL_ops_9 : decode cL_ops 9 = .ok (.goto 6, 3) := by decide +kernel
theorem dL_ops_12 : decode cL_ops 12 = .ok (.astore_n 3, 1) := by decide +kernel
theorem dL_ops_13 : decode cL_ops 13 = .ok (.iconst 1, 1) := by decide +kernel
theorem dL_ops_14 : decode cL_ops 14 = .ok (.ireturn, 1) := by decide +kernel
theorem dL_ops_15 : decode cL_ops 15 = .ok (.iconst 0, 1) := by decide +kernel
theorem dL_ops_16 : decode cL_ops 16 = .ok (.ireturn, 1) := by decide +kernel
theorem dL_opAt_0 : decode cL_opAt 0 = .ok (.aload_n 3, 1) := by decide +kernel
theorem dL_opAt_1 : decode cL_opAt 1 = .ok (.iconst 0, 1) := by decide +kernel
theorem dL_opAt_2 : decode cL_opAt 2 = .ok (.aload_n 0, 1) := by decide +kernel
theorem dL_opAt_3 : decode cL_opAt 3 = .ok (.iload_n 1, 1) := by decide +kernel
theorem dL_opAt_4 : decode cL_opAt 4 = .ok (.iload_n 2, 1) := by decide +kernel
theorem dL_opAt_5 : decode cL_opAt 5 = .ok (.invokevirtual 64, 3) := by decide +kernel
theorem dL_opAt_8 : decode cL_opAt 8 = .ok (.i2l, 1) := by decide +kernel
theorem dL_opAt_9 : decode cL_opAt 9 = .ok (.lastore, 1) := by decide +kernel
theorem dL_opAt_10 : decode cL_opAt 10 = .ok (.goto 7, 3) := by decide +kernel
theorem dL_opAt_13 : decode cL_opAt 13 = .ok (.astore 4, 2) := by decide +kernel
theorem dL_opAt_15 : decode cL_opAt 15 = .ok (.iconst 1, 1) := by decide +kernel
theorem dL_opAt_16 : decode cL_opAt 16 = .ok (.ireturn, 1) := by decide +kernel
theorem dL_opAt_17 : decode cL_opAt 17 = .ok (.iconst 0, 1) := by decide +kernel
theorem dL_opAt_18 : decode cL_opAt 18 = .ok (.ireturn, 1) := by decide +kernel
theorem dL_opNumber_0 : decode cL_opNumber 0 = .ok (.aload_n 3, 1) := by decide +kernel
theorem dL_opNumber_1 : decode cL_opNumber 1 = .ok (.iconst 0, 1) := by decide +kernel
theorem dL_opNumber_2 : decode cL_opNumber 2 = .ok (.aload_n 0, 1) := by decide +kernel
theorem dL_opNumber_3 : decode cL_opNumber 3 = .ok (.iload_n 1, 1) := by decide +kernel
theorem dL_opNumber_4 : decode cL_opNumber 4 = .ok (.iload_n 2, 1) := by decide +kernel
theorem dL_opNumber_5 : decode cL_opNumber 5 = .ok (.invokevirtual 68, 3) := by decide +kernel
theorem dL_opNumber_8 : decode cL_opNumber 8 = .ok (.i2l, 1) := by decide +kernel
theorem dL_opNumber_9 : decode cL_opNumber 9 = .ok (.lastore, 1) := by decide +kernel
theorem dL_opNumber_10 : decode cL_opNumber 10 = .ok (.goto 7, 3) := by decide +kernel
theorem dL_opNumber_13 : decode cL_opNumber 13 = .ok (.astore 4, 2) := by decide +kernel
theorem dL_opNumber_15 : decode cL_opNumber 15 = .ok (.iconst 1, 1) := by decide +kernel
theorem dL_opNumber_16 : decode cL_opNumber 16 = .ok (.ireturn, 1) := by decide +kernel
theorem dL_opNumber_17 : decode cL_opNumber 17 = .ok (.iconst 0, 1) := by decide +kernel
theorem dL_opNumber_18 : decode cL_opNumber 18 = .ok (.ireturn, 1) := by decide +kernel
theorem dL_effect_0 : decode cL_effect 0 = .ok (.aload_n 2, 1) := by decide +kernel
theorem dL_effect_1 : decode cL_effect 1 = .ok (.iconst 0, 1) := by decide +kernel
theorem dL_effect_2 : decode cL_effect 2 = .ok (.aload_n 0, 1) := by decide +kernel
theorem dL_effect_3 : decode cL_effect 3 = .ok (.iload_n 1, 1) := by decide +kernel
theorem dL_effect_4 : decode cL_effect 4 = .ok (.invokevirtual 72, 3) := by decide +kernel
theorem dL_effect_7 : decode cL_effect 7 = .ok (.i2l, 1) := by decide +kernel
theorem dL_effect_8 : decode cL_effect 8 = .ok (.lastore, 1) := by decide +kernel
theorem dL_effect_9 : decode cL_effect 9 = .ok (.goto 9, 3) := by decide +kernel
theorem dL_effect_12 : decode cL_effect 12 = .ok (.astore_n 3, 1) := by decide +kernel
theorem dL_effect_13 : decode cL_effect 13 = .ok (.iconst 1, 1) := by decide +kernel
theorem dL_effect_14 : decode cL_effect 14 = .ok (.ireturn, 1) := by decide +kernel
theorem dL_effect_15 : decode cL_effect 15 = .ok (.astore_n 3, 1) := by decide +kernel
theorem dL_effect_16 : decode cL_effect 16 = .ok (.iconst 2, 1) := by decide +kernel
theorem dL_effect_17 : decode cL_effect 17 = .ok (.ireturn, 1) := by decide +kernel
theorem dL_effect_18 : decode cL_effect 18 = .ok (.iconst 0, 1) := by decide +kernel
theorem dL_effect_19 : decode cL_effect 19 = .ok (.ireturn, 1) := by decide +kernel
theorem dL_errorShare_0 : decode cL_errorShare 0 = .ok (.aload_n 1, 1) := by decide +kernel
theorem dL_errorShare_1 : decode cL_errorShare 1 = .ok (.iconst 0, 1) := by decide +kernel
theorem dL_errorShare_2 : decode cL_errorShare 2 = .ok (.aload_n 0, 1) := by decide +kernel
theorem dL_errorShare_3 : decode cL_errorShare 3 = .ok (.invokevirtual 77, 3) := by decide +kernel
theorem dL_errorShare_6 : decode cL_errorShare 6 = .ok (.f2d, 1) := by decide +kernel
theorem dL_errorShare_7 : decode cL_errorShare 7 = .ok (.dastore, 1) := by decide +kernel
theorem dL_errorShare_8 : decode cL_errorShare 8 = .ok (.goto 6, 3) := by decide +kernel
theorem dL_errorShare_11 : decode cL_errorShare 11 = .ok (.astore_n 2, 1) := by decide +kernel
theorem dL_errorShare_12 : decode cL_errorShare 12 = .ok (.iconst 1, 1) := by decide +kernel
theorem dL_errorShare_13 : decode cL_errorShare 13 = .ok (.ireturn, 1) := by decide +kernel
theorem dL_errorShare_14 : decode cL_errorShare 14 = .ok (.iconst 0, 1) := by decide +kernel
theorem dL_errorShare_15 : decode cL_errorShare 15 = .ok (.ireturn, 1) := by decide +kernel
theorem dL_meanSteps_0 : decode cL_meanSteps 0 = .ok (.aload_n 1, 1) := by decide +kernel
theorem dL_meanSteps_1 : decode cL_meanSteps 1 = .ok (.iconst 0, 1) := by decide +kernel
theorem dL_meanSteps_2 : decode cL_meanSteps 2 = .ok (.aload_n 0, 1) := by decide +kernel
theorem dL_meanSteps_3 : decode cL_meanSteps 3 = .ok (.invokevirtual 83, 3) := by decide +kernel
theorem dL_meanSteps_6 : decode cL_meanSteps 6 = .ok (.dastore, 1) := by decide +kernel
theorem dL_meanSteps_7 : decode cL_meanSteps 7 = .ok (.goto 6, 3) := by decide +kernel
theorem dL_meanSteps_10 : decode cL_meanSteps 10 = .ok (.astore_n 2, 1) := by decide +kernel
theorem dL_meanSteps_11 : decode cL_meanSteps 11 = .ok (.iconst 1, 1) := by decide +kernel
theorem dL_meanSteps_12 : decode cL_meanSteps 12 = .ok (.ireturn, 1) := by decide +kernel
theorem dL_meanSteps_13 : decode cL_meanSteps 13 = .ok (.iconst 0, 1) := by decide +kernel
theorem dL_meanSteps_14 : decode cL_meanSteps 14 = .ok (.ireturn, 1) := by decide +kernel
theorem dL_law_0 : decode cL_law 0 = .ok (.new 8, 3) := by decide +kernel
theorem dL_law_3 : decode cL_law 3 = .ok (.dup, 1) := by decide +kernel
theorem dL_law_4 : decode cL_law 4 = .ok (.invokespecial 87, 3) := by decide +kernel
theorem dL_law_7 : decode cL_law 7 = .ok (.astore_n 1, 1) := by decide +kernel
theorem dL_law_8 : decode cL_law 8 = .ok (.new 88, 3) := by decide +kernel
theorem dL_law_11 : decode cL_law 11 = .ok (.dup, 1) := by decide +kernel
theorem dL_law_12 : decode cL_law 12 = .ok (.invokespecial 90, 3) := by decide +kernel
theorem dL_law_15 : decode cL_law 15 = .ok (.astore_n 2, 1) := by decide +kernel
theorem dL_law_16 : decode cL_law 16 = .ok (.iconst 1, 1) := by decide +kernel
theorem dL_law_17 : decode cL_law 17 = .ok (.newarray .long, 2) := by decide +kernel
theorem dL_law_19 : decode cL_law 19 = .ok (.astore_n 3, 1) := by decide +kernel
theorem dL_law_20 : decode cL_law 20 = .ok (.iconst 1, 1) := by decide +kernel
theorem dL_law_21 : decode cL_law 21 = .ok (.newarray .double, 2) := by decide +kernel
theorem dL_law_23 : decode cL_law 23 = .ok (.astore 4, 2) := by decide +kernel
theorem dL_law_25 : decode cL_law 25 = .ok (.iconst 0, 1) := by decide +kernel
theorem dL_law_26 : decode cL_law 26 = .ok (.istore 5, 2) := by decide +kernel
theorem dL_law_28 : decode cL_law 28 = .ok (.iload 5, 2) := by decide +kernel
theorem dL_law_30 : decode cL_law 30 = .ok (.aload_n 0, 1) := by decide +kernel
theorem dL_law_31 : decode cL_law 31 = .ok (.arraylength, 1) := by decide +kernel
theorem dL_law_32 : decode cL_law 32 = .ok (.iconst 3, 1) := by decide +kernel
theorem dL_law_33 : decode cL_law 33 = .ok (.isub, 1) := by decide +kernel
theorem dL_law_34 : decode cL_law 34 = .ok (.if_icmp .gt 1400, 3) := by decide +kernel
theorem dL_law_37 : decode cL_law 37 = .ok (.aload_n 0, 1) := by decide +kernel
theorem dL_law_38 : decode cL_law 38 = .ok (.iload 5, 2) := by decide +kernel
theorem dL_law_40 : decode cL_law 40 = .ok (.iaload, 1) := by decide +kernel
theorem dL_law_41 : decode cL_law 41 = .ok (.bipush 31, 2) := by decide +kernel
theorem dL_law_43 : decode cL_law 43 = .ok (.iand, 1) := by decide +kernel
theorem dL_law_44 : decode cL_law 44 = .ok (.tableswitch 1384 0 29 #[136, 194, 250, 306, 319, 363, 376, 432, 445, 501, 514, 527, 583, 596, 652, 665, 721, 777, 840, 896, 952, 1008, 1076, 1144, 1200, 1213, 1227, 1240, 1306, 1371], 136) := by decide +kernel
theorem dL_law_180 : decode cL_law 180 = .ok (.aload_n 1, 1) := by decide +kernel
theorem dL_law_181 : decode cL_law 181 = .ok (.aload_n 0, 1) := by decide +kernel
theorem dL_law_182 : decode cL_law 182 = .ok (.iload 5, 2) := by decide +kernel
theorem dL_law_184 : decode cL_law 184 = .ok (.iconst 1, 1) := by decide +kernel
theorem dL_law_185 : decode cL_law 185 = .ok (.iadd, 1) := by decide +kernel
theorem dL_law_186 : decode cL_law 186 = .ok (.iaload, 1) := by decide +kernel
theorem dL_law_187 : decode cL_law 187 = .ok (.i2c, 1) := by decide +kernel
theorem dL_law_188 : decode cL_law 188 = .ok (.aload_n 3, 1) := by decide +kernel
theorem dL_law_189 : decode cL_law 189 = .ok (.invokestatic 91, 3) := by decide +kernel
theorem dL_law_192 : decode cL_law 192 = .ok (.istore 6, 2) := by decide +kernel
theorem dL_law_194 : decode cL_law 194 = .ok (.aload_n 2, 1) := by decide +kernel
theorem dL_law_195 : decode cL_law 195 = .ok (.aload_n 0, 1) := by decide +kernel
theorem dL_law_196 : decode cL_law 196 = .ok (.iload 5, 2) := by decide +kernel
theorem dL_law_198 : decode cL_law 198 = .ok (.iconst 1, 1) := by decide +kernel
theorem dL_law_199 : decode cL_law 199 = .ok (.iadd, 1) := by decide +kernel
theorem dL_law_200 : decode cL_law 200 = .ok (.iaload, 1) := by decide +kernel
theorem dL_law_201 : decode cL_law 201 = .ok (.i2c, 1) := by decide +kernel
theorem dL_law_202 : decode cL_law 202 = .ok (.invokevirtual 96, 3) := by decide +kernel
theorem dL_law_205 : decode cL_law 205 = .ok (.istore 7, 2) := by decide +kernel
theorem dL_law_207 : decode cL_law 207 = .ok (.aload_n 2, 1) := by decide +kernel
theorem dL_law_208 : decode cL_law 208 = .ok (.invokevirtual 97, 3) := by decide +kernel
theorem dL_law_211 : decode cL_law 211 = .ok (.iload 6, 2) := by decide +kernel
theorem dL_law_213 : decode cL_law 213 = .ok (.if_icmp .eq 5, 3) := by decide +kernel
theorem dL_law_216 : decode cL_law 216 = .ok (.iconst 0, 1) := by decide +kernel
theorem dL_law_217 : decode cL_law 217 = .ok (.ireturn, 1) := by decide +kernel
theorem dL_law_218 : decode cL_law 218 = .ok (.iload 6, 2) := by decide +kernel
theorem dL_law_220 : decode cL_law 220 = .ok (.ifCond .ne 15, 3) := by decide +kernel
theorem dL_law_223 : decode cL_law 223 = .ok (.aload_n 3, 1) := by decide +kernel
theorem dL_law_224 : decode cL_law 224 = .ok (.iconst 0, 1) := by decide +kernel
theorem dL_law_225 : decode cL_law 225 = .ok (.laload, 1) := by decide +kernel
theorem dL_law_226 : decode cL_law 226 = .ok (.iload 7, 2) := by decide +kernel
theorem dL_law_228 : decode cL_law 228 = .ok (.i2l, 1) := by decide +kernel
theorem dL_law_229 : decode cL_law 229 = .ok (.lcmp, 1) := by decide +kernel
theorem dL_law_230 : decode cL_law 230 = .ok (.ifCond .eq 5, 3) := by decide +kernel
theorem dL_law_233 : decode cL_law 233 = .ok (.iconst 0, 1) := by decide +kernel
theorem dL_law_234 : decode cL_law 234 = .ok (.ireturn, 1) := by decide +kernel
theorem dL_law_235 : decode cL_law 235 = .ok (.goto 1193, 3) := by decide +kernel
theorem dL_law_238 : decode cL_law 238 = .ok (.aload_n 1, 1) := by decide +kernel
theorem dL_law_239 : decode cL_law 239 = .ok (.aload_n 0, 1) := by decide +kernel
theorem dL_law_240 : decode cL_law 240 = .ok (.iload 5, 2) := by decide +kernel
theorem dL_law_242 : decode cL_law 242 = .ok (.iconst 1, 1) := by decide +kernel
theorem dL_law_243 : decode cL_law 243 = .ok (.iadd, 1) := by decide +kernel
theorem dL_law_244 : decode cL_law 244 = .ok (.iaload, 1) := by decide +kernel
theorem dL_law_245 : decode cL_law 245 = .ok (.aload_n 3, 1) := by decide +kernel
theorem dL_law_246 : decode cL_law 246 = .ok (.invokestatic 100, 3) := by decide +kernel
theorem dL_law_249 : decode cL_law 249 = .ok (.istore 6, 2) := by decide +kernel
theorem dL_law_251 : decode cL_law 251 = .ok (.aload_n 2, 1) := by decide +kernel
theorem dL_law_252 : decode cL_law 252 = .ok (.aload_n 0, 1) := by decide +kernel
theorem dL_law_253 : decode cL_law 253 = .ok (.iload 5, 2) := by decide +kernel
theorem dL_law_255 : decode cL_law 255 = .ok (.iconst 1, 1) := by decide +kernel
theorem dL_law_256 : decode cL_law 256 = .ok (.iadd, 1) := by decide +kernel
theorem dL_law_257 : decode cL_law 257 = .ok (.iaload, 1) := by decide +kernel
theorem dL_law_258 : decode cL_law 258 = .ok (.invokevirtual 103, 3) := by decide +kernel
theorem dL_law_261 : decode cL_law 261 = .ok (.istore 7, 2) := by decide +kernel
theorem dL_law_263 : decode cL_law 263 = .ok (.aload_n 2, 1) := by decide +kernel
theorem dL_law_264 : decode cL_law 264 = .ok (.invokevirtual 97, 3) := by decide +kernel
theorem dL_law_267 : decode cL_law 267 = .ok (.iload 6, 2) := by decide +kernel
theorem dL_law_269 : decode cL_law 269 = .ok (.if_icmp .eq 5, 3) := by decide +kernel
theorem dL_law_272 : decode cL_law 272 = .ok (.iconst 0, 1) := by decide +kernel
theorem dL_law_273 : decode cL_law 273 = .ok (.ireturn, 1) := by decide +kernel
theorem dL_law_274 : decode cL_law 274 = .ok (.iload 6, 2) := by decide +kernel
theorem dL_law_276 : decode cL_law 276 = .ok (.ifCond .ne 15, 3) := by decide +kernel
theorem dL_law_279 : decode cL_law 279 = .ok (.aload_n 3, 1) := by decide +kernel
theorem dL_law_280 : decode cL_law 280 = .ok (.iconst 0, 1) := by decide +kernel
theorem dL_law_281 : decode cL_law 281 = .ok (.laload, 1) := by decide +kernel
theorem dL_law_282 : decode cL_law 282 = .ok (.iload 7, 2) := by decide +kernel
theorem dL_law_284 : decode cL_law 284 = .ok (.i2l, 1) := by decide +kernel
theorem dL_law_285 : decode cL_law 285 = .ok (.lcmp, 1) := by decide +kernel
theorem dL_law_286 : decode cL_law 286 = .ok (.ifCond .eq 5, 3) := by decide +kernel
theorem dL_law_289 : decode cL_law 289 = .ok (.iconst 0, 1) := by decide +kernel
theorem dL_law_290 : decode cL_law 290 = .ok (.ireturn, 1) := by decide +kernel
theorem dL_law_291 : decode cL_law 291 = .ok (.goto 1137, 3) := by decide +kernel
theorem dL_law_294 : decode cL_law 294 = .ok (.aload_n 1, 1) := by decide +kernel
theorem dL_law_295 : decode cL_law 295 = .ok (.aload_n 0, 1) := by decide +kernel
theorem dL_law_296 : decode cL_law 296 = .ok (.iload 5, 2) := by decide +kernel
theorem dL_law_298 : decode cL_law 298 = .ok (.iconst 1, 1) := by decide +kernel
theorem dL_law_299 : decode cL_law 299 = .ok (.iadd, 1) := by decide +kernel
theorem dL_law_300 : decode cL_law 300 = .ok (.iaload, 1) := by decide +kernel
theorem dL_law_301 : decode cL_law 301 = .ok (.aload_n 3, 1) := by decide +kernel
theorem dL_law_302 : decode cL_law 302 = .ok (.invokestatic 104, 3) := by decide +kernel
theorem dL_law_305 : decode cL_law 305 = .ok (.istore 6, 2) := by decide +kernel
theorem dL_law_307 : decode cL_law 307 = .ok (.aload_n 2, 1) := by decide +kernel
theorem dL_law_308 : decode cL_law 308 = .ok (.aload_n 0, 1) := by decide +kernel
theorem dL_law_309 : decode cL_law 309 = .ok (.iload 5, 2) := by decide +kernel
theorem dL_law_311 : decode cL_law 311 = .ok (.iconst 1, 1) := by decide +kernel
theorem dL_law_312 : decode cL_law 312 = .ok (.iadd, 1) := by decide +kernel
theorem dL_law_313 : decode cL_law 313 = .ok (.iaload, 1) := by decide +kernel
theorem dL_law_314 : decode cL_law 314 = .ok (.invokevirtual 106, 3) := by decide +kernel
theorem dL_law_317 : decode cL_law 317 = .ok (.istore 7, 2) := by decide +kernel
theorem dL_law_319 : decode cL_law 319 = .ok (.aload_n 2, 1) := by decide +kernel
theorem dL_law_320 : decode cL_law 320 = .ok (.invokevirtual 97, 3) := by decide +kernel
theorem dL_law_323 : decode cL_law 323 = .ok (.iload 6, 2) := by decide +kernel
theorem dL_law_325 : decode cL_law 325 = .ok (.if_icmp .eq 5, 3) := by decide +kernel
theorem dL_law_328 : decode cL_law 328 = .ok (.iconst 0, 1) := by decide +kernel
theorem dL_law_329 : decode cL_law 329 = .ok (.ireturn, 1) := by decide +kernel
theorem dL_law_330 : decode cL_law 330 = .ok (.iload 6, 2) := by decide +kernel
theorem dL_law_332 : decode cL_law 332 = .ok (.ifCond .ne 15, 3) := by decide +kernel
theorem dL_law_335 : decode cL_law 335 = .ok (.aload_n 3, 1) := by decide +kernel
theorem dL_law_336 : decode cL_law 336 = .ok (.iconst 0, 1) := by decide +kernel
theorem dL_law_337 : decode cL_law 337 = .ok (.laload, 1) := by decide +kernel
theorem dL_law_338 : decode cL_law 338 = .ok (.iload 7, 2) := by decide +kernel
theorem dL_law_340 : decode cL_law 340 = .ok (.i2l, 1) := by decide +kernel
theorem dL_law_341 : decode cL_law 341 = .ok (.lcmp, 1) := by decide +kernel
theorem dL_law_342 : decode cL_law 342 = .ok (.ifCond .eq 5, 3) := by decide +kernel
theorem dL_law_345 : decode cL_law 345 = .ok (.iconst 0, 1) := by decide +kernel
theorem dL_law_346 : decode cL_law 346 = .ok (.ireturn, 1) := by decide +kernel
theorem dL_law_347 : decode cL_law 347 = .ok (.goto 1081, 3) := by decide +kernel
theorem dL_law_350 : decode cL_law 350 = .ok (.aload_n 1, 1) := by decide +kernel
theorem dL_law_351 : decode cL_law 351 = .ok (.invokevirtual 107, 3) := by decide +kernel
theorem dL_law_354 : decode cL_law 354 = .ok (.aload_n 2, 1) := by decide +kernel
theorem dL_law_355 : decode cL_law 355 = .ok (.invokevirtual 111, 3) := by decide +kernel
theorem dL_law_358 : decode cL_law 358 = .ok (.if_icmp .eq 1070, 3) := by decide +kernel
theorem dL_law_361 : decode cL_law 361 = .ok (.iconst 0, 1) := by decide +kernel
theorem dL_law_362 : decode cL_law 362 = .ok (.ireturn, 1) := by decide +kernel
theorem dL_law_363 : decode cL_law 363 = .ok (.aload_n 1, 1) := by decide +kernel
theorem dL_law_364 : decode cL_law 364 = .ok (.aload_n 3, 1) := by decide +kernel
theorem dL_law_365 : decode cL_law 365 = .ok (.invokestatic 112, 3) := by decide +kernel
theorem dL_law_368 : decode cL_law 368 = .ok (.istore 6, 2) := by decide +kernel
theorem dL_law_370 : decode cL_law 370 = .ok (.aload_n 2, 1) := by decide +kernel
theorem dL_law_371 : decode cL_law 371 = .ok (.invokevirtual 115, 3) := by decide +kernel
theorem dL_law_374 : decode cL_law 374 = .ok (.istore 7, 2) := by decide +kernel
theorem dL_law_376 : decode cL_law 376 = .ok (.aload_n 2, 1) := by decide +kernel
theorem dL_law_377 : decode cL_law 377 = .ok (.invokevirtual 97, 3) := by decide +kernel
theorem dL_law_380 : decode cL_law 380 = .ok (.iload 6, 2) := by decide +kernel
theorem dL_law_382 : decode cL_law 382 = .ok (.if_icmp .eq 5, 3) := by decide +kernel
theorem dL_law_385 : decode cL_law 385 = .ok (.iconst 0, 1) := by decide +kernel
theorem dL_law_386 : decode cL_law 386 = .ok (.ireturn, 1) := by decide +kernel
theorem dL_law_387 : decode cL_law 387 = .ok (.iload 6, 2) := by decide +kernel
theorem dL_law_389 : decode cL_law 389 = .ok (.ifCond .ne 15, 3) := by decide +kernel
theorem dL_law_392 : decode cL_law 392 = .ok (.aload_n 3, 1) := by decide +kernel
theorem dL_law_393 : decode cL_law 393 = .ok (.iconst 0, 1) := by decide +kernel
theorem dL_law_394 : decode cL_law 394 = .ok (.laload, 1) := by decide +kernel
theorem dL_law_395 : decode cL_law 395 = .ok (.iload 7, 2) := by decide +kernel
theorem dL_law_397 : decode cL_law 397 = .ok (.i2l, 1) := by decide +kernel
theorem dL_law_398 : decode cL_law 398 = .ok (.lcmp, 1) := by decide +kernel
theorem dL_law_399 : decode cL_law 399 = .ok (.ifCond .eq 5, 3) := by decide +kernel
theorem dL_law_402 : decode cL_law 402 = .ok (.iconst 0, 1) := by decide +kernel
theorem dL_law_403 : decode cL_law 403 = .ok (.ireturn, 1) := by decide +kernel
theorem dL_law_404 : decode cL_law 404 = .ok (.goto 1024, 3) := by decide +kernel
theorem dL_law_407 : decode cL_law 407 = .ok (.aload_n 1, 1) := by decide +kernel
theorem dL_law_408 : decode cL_law 408 = .ok (.invokevirtual 116, 3) := by decide +kernel
theorem dL_law_411 : decode cL_law 411 = .ok (.aload_n 2, 1) := by decide +kernel
theorem dL_law_412 : decode cL_law 412 = .ok (.invokevirtual 119, 3) := by decide +kernel
theorem dL_law_415 : decode cL_law 415 = .ok (.if_icmp .eq 1013, 3) := by decide +kernel
theorem dL_law_418 : decode cL_law 418 = .ok (.iconst 0, 1) := by decide +kernel
theorem dL_law_419 : decode cL_law 419 = .ok (.ireturn, 1) := by decide +kernel
theorem dL_law_420 : decode cL_law 420 = .ok (.aload_n 1, 1) := by decide +kernel
theorem dL_law_421 : decode cL_law 421 = .ok (.aload_n 0, 1) := by decide +kernel
theorem dL_law_422 : decode cL_law 422 = .ok (.iload 5, 2) := by decide +kernel
theorem dL_law_424 : decode cL_law 424 = .ok (.iconst 1, 1) := by decide +kernel
theorem dL_law_425 : decode cL_law 425 = .ok (.iadd, 1) := by decide +kernel
theorem dL_law_426 : decode cL_law 426 = .ok (.iaload, 1) := by decide +kernel
theorem dL_law_427 : decode cL_law 427 = .ok (.aload_n 3, 1) := by decide +kernel
theorem dL_law_428 : decode cL_law 428 = .ok (.invokestatic 120, 3) := by decide +kernel
theorem dL_law_431 : decode cL_law 431 = .ok (.istore 6, 2) := by decide +kernel
theorem dL_law_433 : decode cL_law 433 = .ok (.aload_n 2, 1) := by decide +kernel
theorem dL_law_434 : decode cL_law 434 = .ok (.aload_n 0, 1) := by decide +kernel
theorem dL_law_435 : decode cL_law 435 = .ok (.iload 5, 2) := by decide +kernel
theorem dL_law_437 : decode cL_law 437 = .ok (.iconst 1, 1) := by decide +kernel
theorem dL_law_438 : decode cL_law 438 = .ok (.iadd, 1) := by decide +kernel
theorem dL_law_439 : decode cL_law 439 = .ok (.iaload, 1) := by decide +kernel
theorem dL_law_440 : decode cL_law 440 = .ok (.invokevirtual 122, 3) := by decide +kernel
theorem dL_law_443 : decode cL_law 443 = .ok (.istore 7, 2) := by decide +kernel
theorem dL_law_445 : decode cL_law 445 = .ok (.aload_n 2, 1) := by decide +kernel
theorem dL_law_446 : decode cL_law 446 = .ok (.invokevirtual 97, 3) := by decide +kernel
theorem dL_law_449 : decode cL_law 449 = .ok (.iload 6, 2) := by decide +kernel
theorem dL_law_451 : decode cL_law 451 = .ok (.if_icmp .eq 5, 3) := by decide +kernel
theorem dL_law_454 : decode cL_law 454 = .ok (.iconst 0, 1) := by decide +kernel
theorem dL_law_455 : decode cL_law 455 = .ok (.ireturn, 1) := by decide +kernel
theorem dL_law_456 : decode cL_law 456 = .ok (.iload 6, 2) := by decide +kernel
theorem dL_law_458 : decode cL_law 458 = .ok (.ifCond .ne 15, 3) := by decide +kernel
theorem dL_law_461 : decode cL_law 461 = .ok (.aload_n 3, 1) := by decide +kernel
theorem dL_law_462 : decode cL_law 462 = .ok (.iconst 0, 1) := by decide +kernel
theorem dL_law_463 : decode cL_law 463 = .ok (.laload, 1) := by decide +kernel
theorem dL_law_464 : decode cL_law 464 = .ok (.iload 7, 2) := by decide +kernel
theorem dL_law_466 : decode cL_law 466 = .ok (.i2l, 1) := by decide +kernel
theorem dL_law_467 : decode cL_law 467 = .ok (.lcmp, 1) := by decide +kernel
theorem dL_law_468 : decode cL_law 468 = .ok (.ifCond .eq 5, 3) := by decide +kernel
theorem dL_law_471 : decode cL_law 471 = .ok (.iconst 0, 1) := by decide +kernel
theorem dL_law_472 : decode cL_law 472 = .ok (.ireturn, 1) := by decide +kernel
theorem dL_law_473 : decode cL_law 473 = .ok (.goto 955, 3) := by decide +kernel
theorem dL_law_476 : decode cL_law 476 = .ok (.aload_n 1, 1) := by decide +kernel
theorem dL_law_477 : decode cL_law 477 = .ok (.invokevirtual 123, 3) := by decide +kernel
theorem dL_law_480 : decode cL_law 480 = .ok (.aload_n 2, 1) := by decide +kernel
theorem dL_law_481 : decode cL_law 481 = .ok (.invokevirtual 126, 3) := by decide +kernel
theorem dL_law_484 : decode cL_law 484 = .ok (.if_icmp .eq 944, 3) := by decide +kernel
theorem dL_law_487 : decode cL_law 487 = .ok (.iconst 0, 1) := by decide +kernel
theorem dL_law_488 : decode cL_law 488 = .ok (.ireturn, 1) := by decide +kernel
theorem dL_law_489 : decode cL_law 489 = .ok (.aload_n 1, 1) := by decide +kernel
theorem dL_law_490 : decode cL_law 490 = .ok (.aload_n 0, 1) := by decide +kernel
theorem dL_law_491 : decode cL_law 491 = .ok (.iload 5, 2) := by decide +kernel
theorem dL_law_493 : decode cL_law 493 = .ok (.iconst 1, 1) := by decide +kernel
theorem dL_law_494 : decode cL_law 494 = .ok (.iadd, 1) := by decide +kernel
theorem dL_law_495 : decode cL_law 495 = .ok (.iaload, 1) := by decide +kernel
theorem dL_law_496 : decode cL_law 496 = .ok (.aload_n 3, 1) := by decide +kernel
theorem dL_law_497 : decode cL_law 497 = .ok (.invokestatic 127, 3) := by decide +kernel
theorem dL_law_500 : decode cL_law 500 = .ok (.istore 6, 2) := by decide +kernel
theorem dL_law_502 : decode cL_law 502 = .ok (.aload_n 2, 1) := by decide +kernel
theorem dL_law_503 : decode cL_law 503 = .ok (.aload_n 0, 1) := by decide +kernel
theorem dL_law_504 : decode cL_law 504 = .ok (.iload 5, 2) := by decide +kernel
theorem dL_law_506 : decode cL_law 506 = .ok (.iconst 1, 1) := by decide +kernel
theorem dL_law_507 : decode cL_law 507 = .ok (.iadd, 1) := by decide +kernel
theorem dL_law_508 : decode cL_law 508 = .ok (.iaload, 1) := by decide +kernel
theorem dL_law_509 : decode cL_law 509 = .ok (.invokevirtual 129, 3) := by decide +kernel
theorem dL_law_512 : decode cL_law 512 = .ok (.istore 7, 2) := by decide +kernel
theorem dL_law_514 : decode cL_law 514 = .ok (.aload_n 2, 1) := by decide +kernel
theorem dL_law_515 : decode cL_law 515 = .ok (.invokevirtual 97, 3) := by decide +kernel
theorem dL_law_518 : decode cL_law 518 = .ok (.iload 6, 2) := by decide +kernel
theorem dL_law_520 : decode cL_law 520 = .ok (.if_icmp .eq 5, 3) := by decide +kernel
theorem dL_law_523 : decode cL_law 523 = .ok (.iconst 0, 1) := by decide +kernel
theorem dL_law_524 : decode cL_law 524 = .ok (.ireturn, 1) := by decide +kernel
theorem dL_law_525 : decode cL_law 525 = .ok (.iload 6, 2) := by decide +kernel
theorem dL_law_527 : decode cL_law 527 = .ok (.ifCond .ne 15, 3) := by decide +kernel
theorem dL_law_530 : decode cL_law 530 = .ok (.aload_n 3, 1) := by decide +kernel
theorem dL_law_531 : decode cL_law 531 = .ok (.iconst 0, 1) := by decide +kernel
theorem dL_law_532 : decode cL_law 532 = .ok (.laload, 1) := by decide +kernel
theorem dL_law_533 : decode cL_law 533 = .ok (.iload 7, 2) := by decide +kernel
theorem dL_law_535 : decode cL_law 535 = .ok (.i2l, 1) := by decide +kernel
theorem dL_law_536 : decode cL_law 536 = .ok (.lcmp, 1) := by decide +kernel
theorem dL_law_537 : decode cL_law 537 = .ok (.ifCond .eq 5, 3) := by decide +kernel
theorem dL_law_540 : decode cL_law 540 = .ok (.iconst 0, 1) := by decide +kernel
theorem dL_law_541 : decode cL_law 541 = .ok (.ireturn, 1) := by decide +kernel
theorem dL_law_542 : decode cL_law 542 = .ok (.goto 886, 3) := by decide +kernel
theorem dL_law_545 : decode cL_law 545 = .ok (.aload_n 1, 1) := by decide +kernel
theorem dL_law_546 : decode cL_law 546 = .ok (.invokevirtual 130, 3) := by decide +kernel
theorem dL_law_549 : decode cL_law 549 = .ok (.aload_n 2, 1) := by decide +kernel
theorem dL_law_550 : decode cL_law 550 = .ok (.invokevirtual 133, 3) := by decide +kernel
theorem dL_law_553 : decode cL_law 553 = .ok (.if_icmp .eq 875, 3) := by decide +kernel
theorem dL_law_556 : decode cL_law 556 = .ok (.iconst 0, 1) := by decide +kernel
theorem dL_law_557 : decode cL_law 557 = .ok (.ireturn, 1) := by decide +kernel
theorem dL_law_558 : decode cL_law 558 = .ok (.aload_n 1, 1) := by decide +kernel
theorem dL_law_559 : decode cL_law 559 = .ok (.invokevirtual 134, 3) := by decide +kernel
theorem dL_law_562 : decode cL_law 562 = .ok (.aload_n 2, 1) := by decide +kernel
theorem dL_law_563 : decode cL_law 563 = .ok (.invokevirtual 137, 3) := by decide +kernel
theorem dL_law_566 : decode cL_law 566 = .ok (.if_icmp .eq 862, 3) := by decide +kernel
theorem dL_law_569 : decode cL_law 569 = .ok (.iconst 0, 1) := by decide +kernel
theorem dL_law_570 : decode cL_law 570 = .ok (.ireturn, 1) := by decide +kernel
theorem dL_law_571 : decode cL_law 571 = .ok (.aload_n 1, 1) := by decide +kernel
theorem dL_law_572 : decode cL_law 572 = .ok (.aload_n 0, 1) := by decide +kernel
theorem dL_law_573 : decode cL_law 573 = .ok (.iload 5, 2) := by decide +kernel
theorem dL_law_575 : decode cL_law 575 = .ok (.iconst 1, 1) := by decide +kernel
theorem dL_law_576 : decode cL_law 576 = .ok (.iadd, 1) := by decide +kernel
theorem dL_law_577 : decode cL_law 577 = .ok (.iaload, 1) := by decide +kernel
theorem dL_law_578 : decode cL_law 578 = .ok (.aload_n 3, 1) := by decide +kernel
theorem dL_law_579 : decode cL_law 579 = .ok (.invokestatic 138, 3) := by decide +kernel
theorem dL_law_582 : decode cL_law 582 = .ok (.istore 6, 2) := by decide +kernel
theorem dL_law_584 : decode cL_law 584 = .ok (.aload_n 2, 1) := by decide +kernel
theorem dL_law_585 : decode cL_law 585 = .ok (.aload_n 0, 1) := by decide +kernel
theorem dL_law_586 : decode cL_law 586 = .ok (.iload 5, 2) := by decide +kernel
theorem dL_law_588 : decode cL_law 588 = .ok (.iconst 1, 1) := by decide +kernel
theorem dL_law_589 : decode cL_law 589 = .ok (.iadd, 1) := by decide +kernel
theorem dL_law_590 : decode cL_law 590 = .ok (.iaload, 1) := by decide +kernel
theorem dL_law_591 : decode cL_law 591 = .ok (.invokevirtual 140, 3) := by decide +kernel
theorem dL_law_594 : decode cL_law 594 = .ok (.istore 7, 2) := by decide +kernel
theorem dL_law_596 : decode cL_law 596 = .ok (.aload_n 2, 1) := by decide +kernel
theorem dL_law_597 : decode cL_law 597 = .ok (.invokevirtual 97, 3) := by decide +kernel
theorem dL_law_600 : decode cL_law 600 = .ok (.iload 6, 2) := by decide +kernel
theorem dL_law_602 : decode cL_law 602 = .ok (.if_icmp .eq 5, 3) := by decide +kernel
theorem dL_law_605 : decode cL_law 605 = .ok (.iconst 0, 1) := by decide +kernel
theorem dL_law_606 : decode cL_law 606 = .ok (.ireturn, 1) := by decide +kernel
theorem dL_law_607 : decode cL_law 607 = .ok (.iload 6, 2) := by decide +kernel
theorem dL_law_609 : decode cL_law 609 = .ok (.ifCond .ne 15, 3) := by decide +kernel
theorem dL_law_612 : decode cL_law 612 = .ok (.aload_n 3, 1) := by decide +kernel
theorem dL_law_613 : decode cL_law 613 = .ok (.iconst 0, 1) := by decide +kernel
theorem dL_law_614 : decode cL_law 614 = .ok (.laload, 1) := by decide +kernel
theorem dL_law_615 : decode cL_law 615 = .ok (.iload 7, 2) := by decide +kernel
theorem dL_law_617 : decode cL_law 617 = .ok (.i2l, 1) := by decide +kernel
theorem dL_law_618 : decode cL_law 618 = .ok (.lcmp, 1) := by decide +kernel
theorem dL_law_619 : decode cL_law 619 = .ok (.ifCond .eq 5, 3) := by decide +kernel
theorem dL_law_622 : decode cL_law 622 = .ok (.iconst 0, 1) := by decide +kernel
theorem dL_law_623 : decode cL_law 623 = .ok (.ireturn, 1) := by decide +kernel
theorem dL_law_624 : decode cL_law 624 = .ok (.goto 804, 3) := by decide +kernel
theorem dL_law_627 : decode cL_law 627 = .ok (.aload_n 1, 1) := by decide +kernel
theorem dL_law_628 : decode cL_law 628 = .ok (.invokevirtual 141, 3) := by decide +kernel
theorem dL_law_631 : decode cL_law 631 = .ok (.aload_n 2, 1) := by decide +kernel
theorem dL_law_632 : decode cL_law 632 = .ok (.invokevirtual 144, 3) := by decide +kernel
theorem dL_law_635 : decode cL_law 635 = .ok (.if_icmp .eq 793, 3) := by decide +kernel
theorem dL_law_638 : decode cL_law 638 = .ok (.iconst 0, 1) := by decide +kernel
theorem dL_law_639 : decode cL_law 639 = .ok (.ireturn, 1) := by decide +kernel
theorem dL_law_640 : decode cL_law 640 = .ok (.aload_n 1, 1) := by decide +kernel
theorem dL_law_641 : decode cL_law 641 = .ok (.aload_n 0, 1) := by decide +kernel
theorem dL_law_642 : decode cL_law 642 = .ok (.iload 5, 2) := by decide +kernel
theorem dL_law_644 : decode cL_law 644 = .ok (.iconst 1, 1) := by decide +kernel
theorem dL_law_645 : decode cL_law 645 = .ok (.iadd, 1) := by decide +kernel
theorem dL_law_646 : decode cL_law 646 = .ok (.iaload, 1) := by decide +kernel
theorem dL_law_647 : decode cL_law 647 = .ok (.aload_n 3, 1) := by decide +kernel
theorem dL_law_648 : decode cL_law 648 = .ok (.invokestatic 145, 3) := by decide +kernel
theorem dL_law_651 : decode cL_law 651 = .ok (.istore 6, 2) := by decide +kernel
theorem dL_law_653 : decode cL_law 653 = .ok (.aload_n 2, 1) := by decide +kernel
theorem dL_law_654 : decode cL_law 654 = .ok (.aload_n 0, 1) := by decide +kernel
theorem dL_law_655 : decode cL_law 655 = .ok (.iload 5, 2) := by decide +kernel
theorem dL_law_657 : decode cL_law 657 = .ok (.iconst 1, 1) := by decide +kernel
theorem dL_law_658 : decode cL_law 658 = .ok (.iadd, 1) := by decide +kernel
theorem dL_law_659 : decode cL_law 659 = .ok (.iaload, 1) := by decide +kernel
theorem dL_law_660 : decode cL_law 660 = .ok (.invokevirtual 147, 3) := by decide +kernel
theorem dL_law_663 : decode cL_law 663 = .ok (.istore 7, 2) := by decide +kernel
theorem dL_law_665 : decode cL_law 665 = .ok (.aload_n 2, 1) := by decide +kernel
theorem dL_law_666 : decode cL_law 666 = .ok (.invokevirtual 97, 3) := by decide +kernel
theorem dL_law_669 : decode cL_law 669 = .ok (.iload 6, 2) := by decide +kernel
theorem dL_law_671 : decode cL_law 671 = .ok (.if_icmp .eq 5, 3) := by decide +kernel
theorem dL_law_674 : decode cL_law 674 = .ok (.iconst 0, 1) := by decide +kernel
theorem dL_law_675 : decode cL_law 675 = .ok (.ireturn, 1) := by decide +kernel
theorem dL_law_676 : decode cL_law 676 = .ok (.iload 6, 2) := by decide +kernel
theorem dL_law_678 : decode cL_law 678 = .ok (.ifCond .ne 15, 3) := by decide +kernel
theorem dL_law_681 : decode cL_law 681 = .ok (.aload_n 3, 1) := by decide +kernel
theorem dL_law_682 : decode cL_law 682 = .ok (.iconst 0, 1) := by decide +kernel
theorem dL_law_683 : decode cL_law 683 = .ok (.laload, 1) := by decide +kernel
theorem dL_law_684 : decode cL_law 684 = .ok (.iload 7, 2) := by decide +kernel
theorem dL_law_686 : decode cL_law 686 = .ok (.i2l, 1) := by decide +kernel
theorem dL_law_687 : decode cL_law 687 = .ok (.lcmp, 1) := by decide +kernel
theorem dL_law_688 : decode cL_law 688 = .ok (.ifCond .eq 5, 3) := by decide +kernel
theorem dL_law_691 : decode cL_law 691 = .ok (.iconst 0, 1) := by decide +kernel
theorem dL_law_692 : decode cL_law 692 = .ok (.ireturn, 1) := by decide +kernel
theorem dL_law_693 : decode cL_law 693 = .ok (.goto 735, 3) := by decide +kernel
theorem dL_law_696 : decode cL_law 696 = .ok (.aload_n 1, 1) := by decide +kernel
theorem dL_law_697 : decode cL_law 697 = .ok (.invokevirtual 148, 3) := by decide +kernel
theorem dL_law_700 : decode cL_law 700 = .ok (.aload_n 2, 1) := by decide +kernel
theorem dL_law_701 : decode cL_law 701 = .ok (.invokevirtual 151, 3) := by decide +kernel
theorem dL_law_704 : decode cL_law 704 = .ok (.if_icmp .eq 724, 3) := by decide +kernel
theorem dL_law_707 : decode cL_law 707 = .ok (.iconst 0, 1) := by decide +kernel
theorem dL_law_708 : decode cL_law 708 = .ok (.ireturn, 1) := by decide +kernel
theorem dL_law_709 : decode cL_law 709 = .ok (.aload_n 1, 1) := by decide +kernel
theorem dL_law_710 : decode cL_law 710 = .ok (.aload_n 0, 1) := by decide +kernel
theorem dL_law_711 : decode cL_law 711 = .ok (.iload 5, 2) := by decide +kernel
theorem dL_law_713 : decode cL_law 713 = .ok (.iconst 1, 1) := by decide +kernel
theorem dL_law_714 : decode cL_law 714 = .ok (.iadd, 1) := by decide +kernel
theorem dL_law_715 : decode cL_law 715 = .ok (.iaload, 1) := by decide +kernel
theorem dL_law_716 : decode cL_law 716 = .ok (.aload_n 3, 1) := by decide +kernel
theorem dL_law_717 : decode cL_law 717 = .ok (.invokestatic 152, 3) := by decide +kernel
theorem dL_law_720 : decode cL_law 720 = .ok (.istore 6, 2) := by decide +kernel
theorem dL_law_722 : decode cL_law 722 = .ok (.aload_n 2, 1) := by decide +kernel
theorem dL_law_723 : decode cL_law 723 = .ok (.aload_n 0, 1) := by decide +kernel
theorem dL_law_724 : decode cL_law 724 = .ok (.iload 5, 2) := by decide +kernel
theorem dL_law_726 : decode cL_law 726 = .ok (.iconst 1, 1) := by decide +kernel
theorem dL_law_727 : decode cL_law 727 = .ok (.iadd, 1) := by decide +kernel
theorem dL_law_728 : decode cL_law 728 = .ok (.iaload, 1) := by decide +kernel
theorem dL_law_729 : decode cL_law 729 = .ok (.invokevirtual 154, 3) := by decide +kernel
theorem dL_law_732 : decode cL_law 732 = .ok (.istore 7, 2) := by decide +kernel
theorem dL_law_734 : decode cL_law 734 = .ok (.aload_n 2, 1) := by decide +kernel
theorem dL_law_735 : decode cL_law 735 = .ok (.invokevirtual 97, 3) := by decide +kernel
theorem dL_law_738 : decode cL_law 738 = .ok (.iload 6, 2) := by decide +kernel
theorem dL_law_740 : decode cL_law 740 = .ok (.if_icmp .eq 5, 3) := by decide +kernel
theorem dL_law_743 : decode cL_law 743 = .ok (.iconst 0, 1) := by decide +kernel
theorem dL_law_744 : decode cL_law 744 = .ok (.ireturn, 1) := by decide +kernel
theorem dL_law_745 : decode cL_law 745 = .ok (.iload 6, 2) := by decide +kernel
theorem dL_law_747 : decode cL_law 747 = .ok (.ifCond .ne 15, 3) := by decide +kernel
theorem dL_law_750 : decode cL_law 750 = .ok (.aload_n 3, 1) := by decide +kernel
theorem dL_law_751 : decode cL_law 751 = .ok (.iconst 0, 1) := by decide +kernel
theorem dL_law_752 : decode cL_law 752 = .ok (.laload, 1) := by decide +kernel
theorem dL_law_753 : decode cL_law 753 = .ok (.iload 7, 2) := by decide +kernel
theorem dL_law_755 : decode cL_law 755 = .ok (.i2l, 1) := by decide +kernel
theorem dL_law_756 : decode cL_law 756 = .ok (.lcmp, 1) := by decide +kernel
theorem dL_law_757 : decode cL_law 757 = .ok (.ifCond .eq 5, 3) := by decide +kernel
theorem dL_law_760 : decode cL_law 760 = .ok (.iconst 0, 1) := by decide +kernel
theorem dL_law_761 : decode cL_law 761 = .ok (.ireturn, 1) := by decide +kernel
theorem dL_law_762 : decode cL_law 762 = .ok (.goto 666, 3) := by decide +kernel
theorem dL_law_765 : decode cL_law 765 = .ok (.aload_n 1, 1) := by decide +kernel
theorem dL_law_766 : decode cL_law 766 = .ok (.aload_n 0, 1) := by decide +kernel
theorem dL_law_767 : decode cL_law 767 = .ok (.iload 5, 2) := by decide +kernel
theorem dL_law_769 : decode cL_law 769 = .ok (.iconst 1, 1) := by decide +kernel
theorem dL_law_770 : decode cL_law 770 = .ok (.iadd, 1) := by decide +kernel
theorem dL_law_771 : decode cL_law 771 = .ok (.iaload, 1) := by decide +kernel
theorem dL_law_772 : decode cL_law 772 = .ok (.aload_n 3, 1) := by decide +kernel
theorem dL_law_773 : decode cL_law 773 = .ok (.invokestatic 155, 3) := by decide +kernel
theorem dL_law_776 : decode cL_law 776 = .ok (.istore 6, 2) := by decide +kernel
theorem dL_law_778 : decode cL_law 778 = .ok (.aload_n 2, 1) := by decide +kernel
theorem dL_law_779 : decode cL_law 779 = .ok (.aload_n 0, 1) := by decide +kernel
theorem dL_law_780 : decode cL_law 780 = .ok (.iload 5, 2) := by decide +kernel
theorem dL_law_782 : decode cL_law 782 = .ok (.iconst 1, 1) := by decide +kernel
theorem dL_law_783 : decode cL_law 783 = .ok (.iadd, 1) := by decide +kernel
theorem dL_law_784 : decode cL_law 784 = .ok (.iaload, 1) := by decide +kernel
theorem dL_law_785 : decode cL_law 785 = .ok (.invokevirtual 157, 3) := by decide +kernel
theorem dL_law_788 : decode cL_law 788 = .ok (.istore 7, 2) := by decide +kernel
theorem dL_law_790 : decode cL_law 790 = .ok (.aload_n 2, 1) := by decide +kernel
theorem dL_law_791 : decode cL_law 791 = .ok (.invokevirtual 97, 3) := by decide +kernel
theorem dL_law_794 : decode cL_law 794 = .ok (.iload 6, 2) := by decide +kernel
theorem dL_law_796 : decode cL_law 796 = .ok (.if_icmp .eq 5, 3) := by decide +kernel
theorem dL_law_799 : decode cL_law 799 = .ok (.iconst 0, 1) := by decide +kernel
theorem dL_law_800 : decode cL_law 800 = .ok (.ireturn, 1) := by decide +kernel
theorem dL_law_801 : decode cL_law 801 = .ok (.iload 6, 2) := by decide +kernel
theorem dL_law_803 : decode cL_law 803 = .ok (.ifCond .ne 15, 3) := by decide +kernel
theorem dL_law_806 : decode cL_law 806 = .ok (.aload_n 3, 1) := by decide +kernel
theorem dL_law_807 : decode cL_law 807 = .ok (.iconst 0, 1) := by decide +kernel
theorem dL_law_808 : decode cL_law 808 = .ok (.laload, 1) := by decide +kernel
theorem dL_law_809 : decode cL_law 809 = .ok (.iload 7, 2) := by decide +kernel
theorem dL_law_811 : decode cL_law 811 = .ok (.i2l, 1) := by decide +kernel
theorem dL_law_812 : decode cL_law 812 = .ok (.lcmp, 1) := by decide +kernel
theorem dL_law_813 : decode cL_law 813 = .ok (.ifCond .eq 5, 3) := by decide +kernel
theorem dL_law_816 : decode cL_law 816 = .ok (.iconst 0, 1) := by decide +kernel
theorem dL_law_817 : decode cL_law 817 = .ok (.ireturn, 1) := by decide +kernel
theorem dL_law_818 : decode cL_law 818 = .ok (.goto 610, 3) := by decide +kernel
theorem dL_law_821 : decode cL_law 821 = .ok (.aload_n 1, 1) := by decide +kernel
theorem dL_law_822 : decode cL_law 822 = .ok (.aload_n 0, 1) := by decide +kernel
theorem dL_law_823 : decode cL_law 823 = .ok (.iload 5, 2) := by decide +kernel
theorem dL_law_825 : decode cL_law 825 = .ok (.iconst 1, 1) := by decide +kernel
theorem dL_law_826 : decode cL_law 826 = .ok (.iadd, 1) := by decide +kernel
theorem dL_law_827 : decode cL_law 827 = .ok (.iaload, 1) := by decide +kernel
theorem dL_law_828 : decode cL_law 828 = .ok (.aload_n 3, 1) := by decide +kernel
theorem dL_law_829 : decode cL_law 829 = .ok (.invokestatic 158, 3) := by decide +kernel
theorem dL_law_832 : decode cL_law 832 = .ok (.istore 6, 2) := by decide +kernel
theorem dL_law_834 : decode cL_law 834 = .ok (.aload_n 2, 1) := by decide +kernel
theorem dL_law_835 : decode cL_law 835 = .ok (.aload_n 0, 1) := by decide +kernel
theorem dL_law_836 : decode cL_law 836 = .ok (.iload 5, 2) := by decide +kernel
theorem dL_law_838 : decode cL_law 838 = .ok (.iconst 1, 1) := by decide +kernel
theorem dL_law_839 : decode cL_law 839 = .ok (.iadd, 1) := by decide +kernel
theorem dL_law_840 : decode cL_law 840 = .ok (.iaload, 1) := by decide +kernel
theorem dL_law_841 : decode cL_law 841 = .ok (.invokevirtual 160, 3) := by decide +kernel
theorem dL_law_844 : decode cL_law 844 = .ok (.istore 7, 2) := by decide +kernel
theorem dL_law_846 : decode cL_law 846 = .ok (.aload_n 2, 1) := by decide +kernel
theorem dL_law_847 : decode cL_law 847 = .ok (.invokevirtual 97, 3) := by decide +kernel
theorem dL_law_850 : decode cL_law 850 = .ok (.iload 6, 2) := by decide +kernel
theorem dL_law_852 : decode cL_law 852 = .ok (.if_icmp .eq 5, 3) := by decide +kernel
theorem dL_law_855 : decode cL_law 855 = .ok (.iconst 0, 1) := by decide +kernel
theorem dL_law_856 : decode cL_law 856 = .ok (.ireturn, 1) := by decide +kernel
theorem dL_law_857 : decode cL_law 857 = .ok (.iload 6, 2) := by decide +kernel
theorem dL_law_859 : decode cL_law 859 = .ok (.ifCond .ne 22, 3) := by decide +kernel
theorem dL_law_862 : decode cL_law 862 = .ok (.aload_n 3, 1) := by decide +kernel
theorem dL_law_863 : decode cL_law 863 = .ok (.iconst 0, 1) := by decide +kernel
theorem dL_law_864 : decode cL_law 864 = .ok (.laload, 1) := by decide +kernel
theorem dL_law_865 : decode cL_law 865 = .ok (.iload 7, 2) := by decide +kernel
theorem dL_law_867 : decode cL_law 867 = .ok (.ifCond .eq 7, 3) := by decide +kernel
theorem dL_law_870 : decode cL_law 870 = .ok (.lconst 1, 1) := by decide +kernel
theorem dL_law_871 : decode cL_law 871 = .ok (.goto 4, 3) := by decide +kernel
theorem dL_law_874 : decode cL_law 874 = .ok (.lconst 0, 1) := by decide +kernel
theorem dL_law_875 : decode cL_law 875 = .ok (.lcmp, 1) := by decide +kernel
theorem dL_law_876 : decode cL_law 876 = .ok (.ifCond .eq 5, 3) := by decide +kernel
theorem dL_law_879 : decode cL_law 879 = .ok (.iconst 0, 1) := by decide +kernel
theorem dL_law_880 : decode cL_law 880 = .ok (.ireturn, 1) := by decide +kernel
theorem dL_law_881 : decode cL_law 881 = .ok (.goto 547, 3) := by decide +kernel
theorem dL_law_884 : decode cL_law 884 = .ok (.aload_n 1, 1) := by decide +kernel
theorem dL_law_885 : decode cL_law 885 = .ok (.aload_n 0, 1) := by decide +kernel
theorem dL_law_886 : decode cL_law 886 = .ok (.iload 5, 2) := by decide +kernel
theorem dL_law_888 : decode cL_law 888 = .ok (.iconst 1, 1) := by decide +kernel
theorem dL_law_889 : decode cL_law 889 = .ok (.iadd, 1) := by decide +kernel
theorem dL_law_890 : decode cL_law 890 = .ok (.iaload, 1) := by decide +kernel
theorem dL_law_891 : decode cL_law 891 = .ok (.aload_n 3, 1) := by decide +kernel
theorem dL_law_892 : decode cL_law 892 = .ok (.invokestatic 161, 3) := by decide +kernel
theorem dL_law_895 : decode cL_law 895 = .ok (.istore 6, 2) := by decide +kernel
theorem dL_law_897 : decode cL_law 897 = .ok (.aload_n 2, 1) := by decide +kernel
theorem dL_law_898 : decode cL_law 898 = .ok (.aload_n 0, 1) := by decide +kernel
theorem dL_law_899 : decode cL_law 899 = .ok (.iload 5, 2) := by decide +kernel
theorem dL_law_901 : decode cL_law 901 = .ok (.iconst 1, 1) := by decide +kernel
theorem dL_law_902 : decode cL_law 902 = .ok (.iadd, 1) := by decide +kernel
theorem dL_law_903 : decode cL_law 903 = .ok (.iaload, 1) := by decide +kernel
theorem dL_law_904 : decode cL_law 904 = .ok (.invokevirtual 163, 3) := by decide +kernel
theorem dL_law_907 : decode cL_law 907 = .ok (.istore 7, 2) := by decide +kernel
theorem dL_law_909 : decode cL_law 909 = .ok (.aload_n 2, 1) := by decide +kernel
theorem dL_law_910 : decode cL_law 910 = .ok (.invokevirtual 97, 3) := by decide +kernel
theorem dL_law_913 : decode cL_law 913 = .ok (.iload 6, 2) := by decide +kernel
theorem dL_law_915 : decode cL_law 915 = .ok (.if_icmp .eq 5, 3) := by decide +kernel
theorem dL_law_918 : decode cL_law 918 = .ok (.iconst 0, 1) := by decide +kernel
theorem dL_law_919 : decode cL_law 919 = .ok (.ireturn, 1) := by decide +kernel
theorem dL_law_920 : decode cL_law 920 = .ok (.iload 6, 2) := by decide +kernel
theorem dL_law_922 : decode cL_law 922 = .ok (.ifCond .ne 15, 3) := by decide +kernel
theorem dL_law_925 : decode cL_law 925 = .ok (.aload_n 3, 1) := by decide +kernel
theorem dL_law_926 : decode cL_law 926 = .ok (.iconst 0, 1) := by decide +kernel
theorem dL_law_927 : decode cL_law 927 = .ok (.laload, 1) := by decide +kernel
theorem dL_law_928 : decode cL_law 928 = .ok (.iload 7, 2) := by decide +kernel
theorem dL_law_930 : decode cL_law 930 = .ok (.i2l, 1) := by decide +kernel
theorem dL_law_931 : decode cL_law 931 = .ok (.lcmp, 1) := by decide +kernel
theorem dL_law_932 : decode cL_law 932 = .ok (.ifCond .eq 5, 3) := by decide +kernel
theorem dL_law_935 : decode cL_law 935 = .ok (.iconst 0, 1) := by decide +kernel
theorem dL_law_936 : decode cL_law 936 = .ok (.ireturn, 1) := by decide +kernel
theorem dL_law_937 : decode cL_law 937 = .ok (.goto 491, 3) := by decide +kernel
theorem dL_law_940 : decode cL_law 940 = .ok (.aload_n 1, 1) := by decide +kernel
theorem dL_law_941 : decode cL_law 941 = .ok (.aload_n 0, 1) := by decide +kernel
theorem dL_law_942 : decode cL_law 942 = .ok (.iload 5, 2) := by decide +kernel
theorem dL_law_944 : decode cL_law 944 = .ok (.iconst 1, 1) := by decide +kernel
theorem dL_law_945 : decode cL_law 945 = .ok (.iadd, 1) := by decide +kernel
theorem dL_law_946 : decode cL_law 946 = .ok (.iaload, 1) := by decide +kernel
theorem dL_law_947 : decode cL_law 947 = .ok (.aload_n 3, 1) := by decide +kernel
theorem dL_law_948 : decode cL_law 948 = .ok (.invokestatic 164, 3) := by decide +kernel
theorem dL_law_951 : decode cL_law 951 = .ok (.istore 6, 2) := by decide +kernel
theorem dL_law_953 : decode cL_law 953 = .ok (.aload_n 2, 1) := by decide +kernel
theorem dL_law_954 : decode cL_law 954 = .ok (.aload_n 0, 1) := by decide +kernel
theorem dL_law_955 : decode cL_law 955 = .ok (.iload 5, 2) := by decide +kernel
theorem dL_law_957 : decode cL_law 957 = .ok (.iconst 1, 1) := by decide +kernel
theorem dL_law_958 : decode cL_law 958 = .ok (.iadd, 1) := by decide +kernel
theorem dL_law_959 : decode cL_law 959 = .ok (.iaload, 1) := by decide +kernel
theorem dL_law_960 : decode cL_law 960 = .ok (.invokevirtual 166, 3) := by decide +kernel
theorem dL_law_963 : decode cL_law 963 = .ok (.istore 7, 2) := by decide +kernel
theorem dL_law_965 : decode cL_law 965 = .ok (.aload_n 2, 1) := by decide +kernel
theorem dL_law_966 : decode cL_law 966 = .ok (.invokevirtual 97, 3) := by decide +kernel
theorem dL_law_969 : decode cL_law 969 = .ok (.iload 6, 2) := by decide +kernel
theorem dL_law_971 : decode cL_law 971 = .ok (.if_icmp .eq 5, 3) := by decide +kernel
theorem dL_law_974 : decode cL_law 974 = .ok (.iconst 0, 1) := by decide +kernel
theorem dL_law_975 : decode cL_law 975 = .ok (.ireturn, 1) := by decide +kernel
theorem dL_law_976 : decode cL_law 976 = .ok (.iload 6, 2) := by decide +kernel
theorem dL_law_978 : decode cL_law 978 = .ok (.ifCond .ne 15, 3) := by decide +kernel
theorem dL_law_981 : decode cL_law 981 = .ok (.aload_n 3, 1) := by decide +kernel
theorem dL_law_982 : decode cL_law 982 = .ok (.iconst 0, 1) := by decide +kernel
theorem dL_law_983 : decode cL_law 983 = .ok (.laload, 1) := by decide +kernel
theorem dL_law_984 : decode cL_law 984 = .ok (.iload 7, 2) := by decide +kernel
theorem dL_law_986 : decode cL_law 986 = .ok (.i2l, 1) := by decide +kernel
theorem dL_law_987 : decode cL_law 987 = .ok (.lcmp, 1) := by decide +kernel
theorem dL_law_988 : decode cL_law 988 = .ok (.ifCond .eq 5, 3) := by decide +kernel
theorem dL_law_991 : decode cL_law 991 = .ok (.iconst 0, 1) := by decide +kernel
theorem dL_law_992 : decode cL_law 992 = .ok (.ireturn, 1) := by decide +kernel
theorem dL_law_993 : decode cL_law 993 = .ok (.goto 435, 3) := by decide +kernel
theorem dL_law_996 : decode cL_law 996 = .ok (.aload_n 1, 1) := by decide +kernel
theorem dL_law_997 : decode cL_law 997 = .ok (.aload_n 0, 1) := by decide +kernel
theorem dL_law_998 : decode cL_law 998 = .ok (.iload 5, 2) := by decide +kernel
theorem dL_law_1000 : decode cL_law 1000 = .ok (.iconst 1, 1) := by decide +kernel
theorem dL_law_1001 : decode cL_law 1001 = .ok (.iadd, 1) := by decide +kernel
theorem dL_law_1002 : decode cL_law 1002 = .ok (.iaload, 1) := by decide +kernel
theorem dL_law_1003 : decode cL_law 1003 = .ok (.aload_n 3, 1) := by decide +kernel
theorem dL_law_1004 : decode cL_law 1004 = .ok (.invokestatic 167, 3) := by decide +kernel
theorem dL_law_1007 : decode cL_law 1007 = .ok (.istore 6, 2) := by decide +kernel
theorem dL_law_1009 : decode cL_law 1009 = .ok (.aload_n 2, 1) := by decide +kernel
theorem dL_law_1010 : decode cL_law 1010 = .ok (.aload_n 0, 1) := by decide +kernel
theorem dL_law_1011 : decode cL_law 1011 = .ok (.iload 5, 2) := by decide +kernel
theorem dL_law_1013 : decode cL_law 1013 = .ok (.iconst 1, 1) := by decide +kernel
theorem dL_law_1014 : decode cL_law 1014 = .ok (.iadd, 1) := by decide +kernel
theorem dL_law_1015 : decode cL_law 1015 = .ok (.iaload, 1) := by decide +kernel
theorem dL_law_1016 : decode cL_law 1016 = .ok (.invokevirtual 169, 3) := by decide +kernel
theorem dL_law_1019 : decode cL_law 1019 = .ok (.istore 7, 2) := by decide +kernel
theorem dL_law_1021 : decode cL_law 1021 = .ok (.aload_n 2, 1) := by decide +kernel
theorem dL_law_1022 : decode cL_law 1022 = .ok (.invokevirtual 97, 3) := by decide +kernel
theorem dL_law_1025 : decode cL_law 1025 = .ok (.iload 6, 2) := by decide +kernel
theorem dL_law_1027 : decode cL_law 1027 = .ok (.if_icmp .eq 5, 3) := by decide +kernel
theorem dL_law_1030 : decode cL_law 1030 = .ok (.iconst 0, 1) := by decide +kernel
theorem dL_law_1031 : decode cL_law 1031 = .ok (.ireturn, 1) := by decide +kernel
theorem dL_law_1032 : decode cL_law 1032 = .ok (.iload 6, 2) := by decide +kernel
theorem dL_law_1034 : decode cL_law 1034 = .ok (.ifCond .ne 15, 3) := by decide +kernel
theorem dL_law_1037 : decode cL_law 1037 = .ok (.aload_n 3, 1) := by decide +kernel
theorem dL_law_1038 : decode cL_law 1038 = .ok (.iconst 0, 1) := by decide +kernel
theorem dL_law_1039 : decode cL_law 1039 = .ok (.laload, 1) := by decide +kernel
theorem dL_law_1040 : decode cL_law 1040 = .ok (.iload 7, 2) := by decide +kernel
theorem dL_law_1042 : decode cL_law 1042 = .ok (.i2l, 1) := by decide +kernel
theorem dL_law_1043 : decode cL_law 1043 = .ok (.lcmp, 1) := by decide +kernel
theorem dL_law_1044 : decode cL_law 1044 = .ok (.ifCond .eq 5, 3) := by decide +kernel
theorem dL_law_1047 : decode cL_law 1047 = .ok (.iconst 0, 1) := by decide +kernel
theorem dL_law_1048 : decode cL_law 1048 = .ok (.ireturn, 1) := by decide +kernel
theorem dL_law_1049 : decode cL_law 1049 = .ok (.goto 379, 3) := by decide +kernel
theorem dL_law_1052 : decode cL_law 1052 = .ok (.aload_n 1, 1) := by decide +kernel
theorem dL_law_1053 : decode cL_law 1053 = .ok (.aload_n 0, 1) := by decide +kernel
theorem dL_law_1054 : decode cL_law 1054 = .ok (.iload 5, 2) := by decide +kernel
theorem dL_law_1056 : decode cL_law 1056 = .ok (.iconst 1, 1) := by decide +kernel
theorem dL_law_1057 : decode cL_law 1057 = .ok (.iadd, 1) := by decide +kernel
theorem dL_law_1058 : decode cL_law 1058 = .ok (.iaload, 1) := by decide +kernel
theorem dL_law_1059 : decode cL_law 1059 = .ok (.aload_n 0, 1) := by decide +kernel
theorem dL_law_1060 : decode cL_law 1060 = .ok (.iload 5, 2) := by decide +kernel
theorem dL_law_1062 : decode cL_law 1062 = .ok (.iconst 2, 1) := by decide +kernel
theorem dL_law_1063 : decode cL_law 1063 = .ok (.iadd, 1) := by decide +kernel
theorem dL_law_1064 : decode cL_law 1064 = .ok (.iaload, 1) := by decide +kernel
theorem dL_law_1065 : decode cL_law 1065 = .ok (.aload_n 3, 1) := by decide +kernel
theorem dL_law_1066 : decode cL_law 1066 = .ok (.invokestatic 170, 3) := by decide +kernel
theorem dL_law_1069 : decode cL_law 1069 = .ok (.istore 6, 2) := by decide +kernel
theorem dL_law_1071 : decode cL_law 1071 = .ok (.aload_n 2, 1) := by decide +kernel
theorem dL_law_1072 : decode cL_law 1072 = .ok (.aload_n 0, 1) := by decide +kernel
theorem dL_law_1073 : decode cL_law 1073 = .ok (.iload 5, 2) := by decide +kernel
theorem dL_law_1075 : decode cL_law 1075 = .ok (.iconst 1, 1) := by decide +kernel
theorem dL_law_1076 : decode cL_law 1076 = .ok (.iadd, 1) := by decide +kernel
theorem dL_law_1077 : decode cL_law 1077 = .ok (.iaload, 1) := by decide +kernel
theorem dL_law_1078 : decode cL_law 1078 = .ok (.aload_n 0, 1) := by decide +kernel
theorem dL_law_1079 : decode cL_law 1079 = .ok (.iload 5, 2) := by decide +kernel
theorem dL_law_1081 : decode cL_law 1081 = .ok (.iconst 2, 1) := by decide +kernel
theorem dL_law_1082 : decode cL_law 1082 = .ok (.iadd, 1) := by decide +kernel
theorem dL_law_1083 : decode cL_law 1083 = .ok (.iaload, 1) := by decide +kernel
theorem dL_law_1084 : decode cL_law 1084 = .ok (.invokevirtual 173, 3) := by decide +kernel
theorem dL_law_1087 : decode cL_law 1087 = .ok (.istore 7, 2) := by decide +kernel
theorem dL_law_1089 : decode cL_law 1089 = .ok (.aload_n 2, 1) := by decide +kernel
theorem dL_law_1090 : decode cL_law 1090 = .ok (.invokevirtual 97, 3) := by decide +kernel
theorem dL_law_1093 : decode cL_law 1093 = .ok (.iload 6, 2) := by decide +kernel
theorem dL_law_1095 : decode cL_law 1095 = .ok (.if_icmp .eq 5, 3) := by decide +kernel
theorem dL_law_1098 : decode cL_law 1098 = .ok (.iconst 0, 1) := by decide +kernel
theorem dL_law_1099 : decode cL_law 1099 = .ok (.ireturn, 1) := by decide +kernel
theorem dL_law_1100 : decode cL_law 1100 = .ok (.iload 6, 2) := by decide +kernel
theorem dL_law_1102 : decode cL_law 1102 = .ok (.ifCond .ne 15, 3) := by decide +kernel
theorem dL_law_1105 : decode cL_law 1105 = .ok (.aload_n 3, 1) := by decide +kernel
theorem dL_law_1106 : decode cL_law 1106 = .ok (.iconst 0, 1) := by decide +kernel
theorem dL_law_1107 : decode cL_law 1107 = .ok (.laload, 1) := by decide +kernel
theorem dL_law_1108 : decode cL_law 1108 = .ok (.iload 7, 2) := by decide +kernel
theorem dL_law_1110 : decode cL_law 1110 = .ok (.i2l, 1) := by decide +kernel
theorem dL_law_1111 : decode cL_law 1111 = .ok (.lcmp, 1) := by decide +kernel
theorem dL_law_1112 : decode cL_law 1112 = .ok (.ifCond .eq 5, 3) := by decide +kernel
theorem dL_law_1115 : decode cL_law 1115 = .ok (.iconst 0, 1) := by decide +kernel
theorem dL_law_1116 : decode cL_law 1116 = .ok (.ireturn, 1) := by decide +kernel
theorem dL_law_1117 : decode cL_law 1117 = .ok (.goto 311, 3) := by decide +kernel
theorem dL_law_1120 : decode cL_law 1120 = .ok (.aload_n 1, 1) := by decide +kernel
theorem dL_law_1121 : decode cL_law 1121 = .ok (.aload_n 0, 1) := by decide +kernel
theorem dL_law_1122 : decode cL_law 1122 = .ok (.iload 5, 2) := by decide +kernel
theorem dL_law_1124 : decode cL_law 1124 = .ok (.iconst 1, 1) := by decide +kernel
theorem dL_law_1125 : decode cL_law 1125 = .ok (.iadd, 1) := by decide +kernel
theorem dL_law_1126 : decode cL_law 1126 = .ok (.iaload, 1) := by decide +kernel
theorem dL_law_1127 : decode cL_law 1127 = .ok (.aload_n 0, 1) := by decide +kernel
theorem dL_law_1128 : decode cL_law 1128 = .ok (.iload 5, 2) := by decide +kernel
theorem dL_law_1130 : decode cL_law 1130 = .ok (.iconst 2, 1) := by decide +kernel
theorem dL_law_1131 : decode cL_law 1131 = .ok (.iadd, 1) := by decide +kernel
theorem dL_law_1132 : decode cL_law 1132 = .ok (.iaload, 1) := by decide +kernel
theorem dL_law_1133 : decode cL_law 1133 = .ok (.aload_n 3, 1) := by decide +kernel
theorem dL_law_1134 : decode cL_law 1134 = .ok (.invokestatic 174, 3) := by decide +kernel
theorem dL_law_1137 : decode cL_law 1137 = .ok (.istore 6, 2) := by decide +kernel
theorem dL_law_1139 : decode cL_law 1139 = .ok (.aload_n 2, 1) := by decide +kernel
theorem dL_law_1140 : decode cL_law 1140 = .ok (.aload_n 0, 1) := by decide +kernel
theorem dL_law_1141 : decode cL_law 1141 = .ok (.iload 5, 2) := by decide +kernel
theorem dL_law_1143 : decode cL_law 1143 = .ok (.iconst 1, 1) := by decide +kernel
theorem dL_law_1144 : decode cL_law 1144 = .ok (.iadd, 1) := by decide +kernel
theorem dL_law_1145 : decode cL_law 1145 = .ok (.iaload, 1) := by decide +kernel
theorem dL_law_1146 : decode cL_law 1146 = .ok (.aload_n 0, 1) := by decide +kernel
theorem dL_law_1147 : decode cL_law 1147 = .ok (.iload 5, 2) := by decide +kernel
theorem dL_law_1149 : decode cL_law 1149 = .ok (.iconst 2, 1) := by decide +kernel
theorem dL_law_1150 : decode cL_law 1150 = .ok (.iadd, 1) := by decide +kernel
theorem dL_law_1151 : decode cL_law 1151 = .ok (.iaload, 1) := by decide +kernel
theorem dL_law_1152 : decode cL_law 1152 = .ok (.invokevirtual 176, 3) := by decide +kernel
theorem dL_law_1155 : decode cL_law 1155 = .ok (.istore 7, 2) := by decide +kernel
theorem dL_law_1157 : decode cL_law 1157 = .ok (.aload_n 2, 1) := by decide +kernel
theorem dL_law_1158 : decode cL_law 1158 = .ok (.invokevirtual 97, 3) := by decide +kernel
theorem dL_law_1161 : decode cL_law 1161 = .ok (.iload 6, 2) := by decide +kernel
theorem dL_law_1163 : decode cL_law 1163 = .ok (.if_icmp .eq 5, 3) := by decide +kernel
theorem dL_law_1166 : decode cL_law 1166 = .ok (.iconst 0, 1) := by decide +kernel
theorem dL_law_1167 : decode cL_law 1167 = .ok (.ireturn, 1) := by decide +kernel
theorem dL_law_1168 : decode cL_law 1168 = .ok (.iload 6, 2) := by decide +kernel
theorem dL_law_1170 : decode cL_law 1170 = .ok (.ifCond .ne 15, 3) := by decide +kernel
theorem dL_law_1173 : decode cL_law 1173 = .ok (.aload_n 3, 1) := by decide +kernel
theorem dL_law_1174 : decode cL_law 1174 = .ok (.iconst 0, 1) := by decide +kernel
theorem dL_law_1175 : decode cL_law 1175 = .ok (.laload, 1) := by decide +kernel
theorem dL_law_1176 : decode cL_law 1176 = .ok (.iload 7, 2) := by decide +kernel
theorem dL_law_1178 : decode cL_law 1178 = .ok (.i2l, 1) := by decide +kernel
theorem dL_law_1179 : decode cL_law 1179 = .ok (.lcmp, 1) := by decide +kernel
theorem dL_law_1180 : decode cL_law 1180 = .ok (.ifCond .eq 5, 3) := by decide +kernel
theorem dL_law_1183 : decode cL_law 1183 = .ok (.iconst 0, 1) := by decide +kernel
theorem dL_law_1184 : decode cL_law 1184 = .ok (.ireturn, 1) := by decide +kernel
theorem dL_law_1185 : decode cL_law 1185 = .ok (.goto 243, 3) := by decide +kernel
theorem dL_law_1188 : decode cL_law 1188 = .ok (.aload_n 1, 1) := by decide +kernel
theorem dL_law_1189 : decode cL_law 1189 = .ok (.aload_n 0, 1) := by decide +kernel
theorem dL_law_1190 : decode cL_law 1190 = .ok (.iload 5, 2) := by decide +kernel
theorem dL_law_1192 : decode cL_law 1192 = .ok (.iconst 1, 1) := by decide +kernel
theorem dL_law_1193 : decode cL_law 1193 = .ok (.iadd, 1) := by decide +kernel
theorem dL_law_1194 : decode cL_law 1194 = .ok (.iaload, 1) := by decide +kernel
theorem dL_law_1195 : decode cL_law 1195 = .ok (.aload_n 3, 1) := by decide +kernel
theorem dL_law_1196 : decode cL_law 1196 = .ok (.invokestatic 177, 3) := by decide +kernel
theorem dL_law_1199 : decode cL_law 1199 = .ok (.istore 6, 2) := by decide +kernel
theorem dL_law_1201 : decode cL_law 1201 = .ok (.aload_n 2, 1) := by decide +kernel
theorem dL_law_1202 : decode cL_law 1202 = .ok (.aload_n 0, 1) := by decide +kernel
theorem dL_law_1203 : decode cL_law 1203 = .ok (.iload 5, 2) := by decide +kernel
theorem dL_law_1205 : decode cL_law 1205 = .ok (.iconst 1, 1) := by decide +kernel
theorem dL_law_1206 : decode cL_law 1206 = .ok (.iadd, 1) := by decide +kernel
theorem dL_law_1207 : decode cL_law 1207 = .ok (.iaload, 1) := by decide +kernel
theorem dL_law_1208 : decode cL_law 1208 = .ok (.invokevirtual 179, 3) := by decide +kernel
theorem dL_law_1211 : decode cL_law 1211 = .ok (.istore 7, 2) := by decide +kernel
theorem dL_law_1213 : decode cL_law 1213 = .ok (.aload_n 2, 1) := by decide +kernel
theorem dL_law_1214 : decode cL_law 1214 = .ok (.invokevirtual 97, 3) := by decide +kernel
theorem dL_law_1217 : decode cL_law 1217 = .ok (.iload 6, 2) := by decide +kernel
theorem dL_law_1219 : decode cL_law 1219 = .ok (.if_icmp .eq 5, 3) := by decide +kernel
theorem dL_law_1222 : decode cL_law 1222 = .ok (.iconst 0, 1) := by decide +kernel
theorem dL_law_1223 : decode cL_law 1223 = .ok (.ireturn, 1) := by decide +kernel
theorem dL_law_1224 : decode cL_law 1224 = .ok (.iload 6, 2) := by decide +kernel
theorem dL_law_1226 : decode cL_law 1226 = .ok (.ifCond .ne 15, 3) := by decide +kernel
theorem dL_law_1229 : decode cL_law 1229 = .ok (.aload_n 3, 1) := by decide +kernel
theorem dL_law_1230 : decode cL_law 1230 = .ok (.iconst 0, 1) := by decide +kernel
theorem dL_law_1231 : decode cL_law 1231 = .ok (.laload, 1) := by decide +kernel
theorem dL_law_1232 : decode cL_law 1232 = .ok (.iload 7, 2) := by decide +kernel
theorem dL_law_1234 : decode cL_law 1234 = .ok (.i2l, 1) := by decide +kernel
theorem dL_law_1235 : decode cL_law 1235 = .ok (.lcmp, 1) := by decide +kernel
theorem dL_law_1236 : decode cL_law 1236 = .ok (.ifCond .eq 5, 3) := by decide +kernel
theorem dL_law_1239 : decode cL_law 1239 = .ok (.iconst 0, 1) := by decide +kernel
theorem dL_law_1240 : decode cL_law 1240 = .ok (.ireturn, 1) := by decide +kernel
theorem dL_law_1241 : decode cL_law 1241 = .ok (.goto 187, 3) := by decide +kernel
theorem dL_law_1244 : decode cL_law 1244 = .ok (.aload_n 1, 1) := by decide +kernel
theorem dL_law_1245 : decode cL_law 1245 = .ok (.invokevirtual 180, 3) := by decide +kernel
theorem dL_law_1248 : decode cL_law 1248 = .ok (.aload_n 2, 1) := by decide +kernel
theorem dL_law_1249 : decode cL_law 1249 = .ok (.invokevirtual 184, 3) := by decide +kernel
theorem dL_law_1252 : decode cL_law 1252 = .ok (.if_icmp .eq 176, 3) := by decide +kernel
theorem dL_law_1255 : decode cL_law 1255 = .ok (.iconst 0, 1) := by decide +kernel
theorem dL_law_1256 : decode cL_law 1256 = .ok (.ireturn, 1) := by decide +kernel
theorem dL_law_1257 : decode cL_law 1257 = .ok (.aload_n 1, 1) := by decide +kernel
theorem dL_law_1258 : decode cL_law 1258 = .ok (.invokevirtual 185, 3) := by decide +kernel
theorem dL_law_1261 : decode cL_law 1261 = .ok (.aload_n 2, 1) := by decide +kernel
theorem dL_law_1262 : decode cL_law 1262 = .ok (.invokevirtual 189, 3) := by decide +kernel
theorem dL_law_1265 : decode cL_law 1265 = .ok (.lcmp, 1) := by decide +kernel
theorem dL_law_1266 : decode cL_law 1266 = .ok (.ifCond .eq 162, 3) := by decide +kernel
theorem dL_law_1269 : decode cL_law 1269 = .ok (.iconst 0, 1) := by decide +kernel
theorem dL_law_1270 : decode cL_law 1270 = .ok (.ireturn, 1) := by decide +kernel
theorem dL_law_1271 : decode cL_law 1271 = .ok (.aload_n 1, 1) := by decide +kernel
theorem dL_law_1272 : decode cL_law 1272 = .ok (.invokevirtual 190, 3) := by decide +kernel
theorem dL_law_1275 : decode cL_law 1275 = .ok (.aload_n 2, 1) := by decide +kernel
theorem dL_law_1276 : decode cL_law 1276 = .ok (.invokevirtual 193, 3) := by decide +kernel
theorem dL_law_1279 : decode cL_law 1279 = .ok (.if_icmp .eq 149, 3) := by decide +kernel
theorem dL_law_1282 : decode cL_law 1282 = .ok (.iconst 0, 1) := by decide +kernel
theorem dL_law_1283 : decode cL_law 1283 = .ok (.ireturn, 1) := by decide +kernel
theorem dL_law_1284 : decode cL_law 1284 = .ok (.aload_n 1, 1) := by decide +kernel
theorem dL_law_1285 : decode cL_law 1285 = .ok (.aload 4, 2) := by decide +kernel
theorem dL_law_1287 : decode cL_law 1287 = .ok (.invokestatic 194, 3) := by decide +kernel
theorem dL_law_1290 : decode cL_law 1290 = .ok (.istore 6, 2) := by decide +kernel
theorem dL_law_1292 : decode cL_law 1292 = .ok (.aload_n 2, 1) := by decide +kernel
theorem dL_law_1293 : decode cL_law 1293 = .ok (.invokevirtual 197, 3) := by decide +kernel
theorem dL_law_1296 : decode cL_law 1296 = .ok (.fstore 7, 2) := by decide +kernel
theorem dL_law_1298 : decode cL_law 1298 = .ok (.aload_n 2, 1) := by decide +kernel
theorem dL_law_1299 : decode cL_law 1299 = .ok (.invokevirtual 97, 3) := by decide +kernel
theorem dL_law_1302 : decode cL_law 1302 = .ok (.iload 6, 2) := by decide +kernel
theorem dL_law_1304 : decode cL_law 1304 = .ok (.if_icmp .eq 5, 3) := by decide +kernel
theorem dL_law_1307 : decode cL_law 1307 = .ok (.iconst 0, 1) := by decide +kernel
theorem dL_law_1308 : decode cL_law 1308 = .ok (.ireturn, 1) := by decide +kernel
theorem dL_law_1309 : decode cL_law 1309 = .ok (.iload 6, 2) := by decide +kernel
theorem dL_law_1311 : decode cL_law 1311 = .ok (.ifCond .ne 36, 3) := by decide +kernel
theorem dL_law_1314 : decode cL_law 1314 = .ok (.aload 4, 2) := by decide +kernel
theorem dL_law_1316 : decode cL_law 1316 = .ok (.iconst 0, 1) := by decide +kernel
theorem dL_law_1317 : decode cL_law 1317 = .ok (.daload, 1) := by decide +kernel
theorem dL_law_1318 : decode cL_law 1318 = .ok (.fload 7, 2) := by decide +kernel
theorem dL_law_1320 : decode cL_law 1320 = .ok (.f2d, 1) := by decide +kernel
theorem dL_law_1321 : decode cL_law 1321 = .ok (.dcmp .l, 1) := by decide +kernel
theorem dL_law_1322 : decode cL_law 1322 = .ok (.ifCond .eq 25, 3) := by decide +kernel
theorem dL_law_1325 : decode cL_law 1325 = .ok (.aload 4, 2) := by decide +kernel
theorem dL_law_1327 : decode cL_law 1327 = .ok (.iconst 0, 1) := by decide +kernel
theorem dL_law_1328 : decode cL_law 1328 = .ok (.daload, 1) := by decide +kernel
theorem dL_law_1329 : decode cL_law 1329 = .ok (.aload 4, 2) := by decide +kernel
theorem dL_law_1331 : decode cL_law 1331 = .ok (.iconst 0, 1) := by decide +kernel
theorem dL_law_1332 : decode cL_law 1332 = .ok (.daload, 1) := by decide +kernel
theorem dL_law_1333 : decode cL_law 1333 = .ok (.dcmp .l, 1) := by decide +kernel
theorem dL_law_1334 : decode cL_law 1334 = .ok (.ifCond .eq 11, 3) := by decide +kernel
theorem dL_law_1337 : decode cL_law 1337 = .ok (.fload 7, 2) := by decide +kernel
theorem dL_law_1339 : decode cL_law 1339 = .ok (.fload 7, 2) := by decide +kernel
theorem dL_law_1341 : decode cL_law 1341 = .ok (.fcmp .l, 1) := by decide +kernel
theorem dL_law_1342 : decode cL_law 1342 = .ok (.ifCond .ne 5, 3) := by decide +kernel
theorem dL_law_1345 : decode cL_law 1345 = .ok (.iconst 0, 1) := by decide +kernel
theorem dL_law_1346 : decode cL_law 1346 = .ok (.ireturn, 1) := by decide +kernel
theorem dL_law_1347 : decode cL_law 1347 = .ok (.goto 81, 3) := by decide +kernel
theorem dL_law_1350 : decode cL_law 1350 = .ok (.aload_n 1, 1) := by decide +kernel
theorem dL_law_1351 : decode cL_law 1351 = .ok (.aload 4, 2) := by decide +kernel
theorem dL_law_1353 : decode cL_law 1353 = .ok (.invokestatic 198, 3) := by decide +kernel
theorem dL_law_1356 : decode cL_law 1356 = .ok (.istore 6, 2) := by decide +kernel
theorem dL_law_1358 : decode cL_law 1358 = .ok (.aload_n 2, 1) := by decide +kernel
theorem dL_law_1359 : decode cL_law 1359 = .ok (.invokevirtual 200, 3) := by decide +kernel
theorem dL_law_1362 : decode cL_law 1362 = .ok (.dstore 7, 2) := by decide +kernel
theorem dL_law_1364 : decode cL_law 1364 = .ok (.aload_n 2, 1) := by decide +kernel
theorem dL_law_1365 : decode cL_law 1365 = .ok (.invokevirtual 97, 3) := by decide +kernel
theorem dL_law_1368 : decode cL_law 1368 = .ok (.iload 6, 2) := by decide +kernel
theorem dL_law_1370 : decode cL_law 1370 = .ok (.if_icmp .eq 5, 3) := by decide +kernel
theorem dL_law_1373 : decode cL_law 1373 = .ok (.iconst 0, 1) := by decide +kernel
theorem dL_law_1374 : decode cL_law 1374 = .ok (.ireturn, 1) := by decide +kernel
theorem dL_law_1375 : decode cL_law 1375 = .ok (.iload 6, 2) := by decide +kernel
theorem dL_law_1377 : decode cL_law 1377 = .ok (.ifCond .ne 35, 3) := by decide +kernel
theorem dL_law_1380 : decode cL_law 1380 = .ok (.aload 4, 2) := by decide +kernel
theorem dL_law_1382 : decode cL_law 1382 = .ok (.iconst 0, 1) := by decide +kernel
theorem dL_law_1383 : decode cL_law 1383 = .ok (.daload, 1) := by decide +kernel
theorem dL_law_1384 : decode cL_law 1384 = .ok (.dload 7, 2) := by decide +kernel
theorem dL_law_1386 : decode cL_law 1386 = .ok (.dcmp .l, 1) := by decide +kernel
theorem dL_law_1387 : decode cL_law 1387 = .ok (.ifCond .eq 25, 3) := by decide +kernel
theorem dL_law_1390 : decode cL_law 1390 = .ok (.aload 4, 2) := by decide +kernel
theorem dL_law_1392 : decode cL_law 1392 = .ok (.iconst 0, 1) := by decide +kernel
theorem dL_law_1393 : decode cL_law 1393 = .ok (.daload, 1) := by decide +kernel
theorem dL_law_1394 : decode cL_law 1394 = .ok (.aload 4, 2) := by decide +kernel
theorem dL_law_1396 : decode cL_law 1396 = .ok (.iconst 0, 1) := by decide +kernel
theorem dL_law_1397 : decode cL_law 1397 = .ok (.daload, 1) := by decide +kernel
theorem dL_law_1398 : decode cL_law 1398 = .ok (.dcmp .l, 1) := by decide +kernel
theorem dL_law_1399 : decode cL_law 1399 = .ok (.ifCond .eq 11, 3) := by decide +kernel
theorem dL_law_1402 : decode cL_law 1402 = .ok (.dload 7, 2) := by decide +kernel
theorem dL_law_1404 : decode cL_law 1404 = .ok (.dload 7, 2) := by decide +kernel
theorem dL_law_1406 : decode cL_law 1406 = .ok (.dcmp .l, 1) := by decide +kernel
theorem dL_law_1407 : decode cL_law 1407 = .ok (.ifCond .ne 5, 3) := by decide +kernel
theorem dL_law_1410 : decode cL_law 1410 = .ok (.iconst 0, 1) := by decide +kernel
theorem dL_law_1411 : decode cL_law 1411 = .ok (.ireturn, 1) := by decide +kernel
theorem dL_law_1412 : decode cL_law 1412 = .ok (.goto 16, 3) := by decide +kernel
theorem dL_law_1415 : decode cL_law 1415 = .ok (.aload_n 1, 1) := by decide +kernel
theorem dL_law_1416 : decode cL_law 1416 = .ok (.invokevirtual 201, 3) := by decide +kernel
theorem dL_law_1419 : decode cL_law 1419 = .ok (.aload_n 2, 1) := by decide +kernel
theorem dL_law_1420 : decode cL_law 1420 = .ok (.invokevirtual 204, 3) := by decide +kernel
theorem dL_law_1423 : decode cL_law 1423 = .ok (.if_icmp .eq 5, 3) := by decide +kernel
theorem dL_law_1426 : decode cL_law 1426 = .ok (.iconst 0, 1) := by decide +kernel
theorem dL_law_1427 : decode cL_law 1427 = .ok (.ireturn, 1) := by decide +kernel
theorem dL_law_1428 : decode cL_law 1428 = .ok (.iinc 5 3, 3) := by decide +kernel
theorem dL_law_1431 : decode cL_law 1431 = .ok (.goto (-1403), 3) := by decide +kernel
theorem dL_law_1434 : decode cL_law 1434 = .ok (.iconst 1, 1) := by decide +kernel
theorem dL_law_1435 : decode cL_law 1435 = .ok (.ireturn, 1) := by decide +kernel
end
section
abbrev pcl : List vw_C := [(RJx4a65c, TJx4a65c, 3), (RX0, TX0, 1), (RX1, TX1, 13), (RX2, TX2, 11), (RX3, TX3, 9), (RX4, TX4, 4), (RX5, TX5, 4), (RX6, TX6, 16), (RX7, TX7, 2), (RX8, TX8, 1), (RX9, TX9, 4), (RX10, TX10, 4), (RX11, TX11, 10), (RX14, TX14, 2), (RX17, TX17, 31)]
def plit_0 : List Cond := [Cond.methodLink RX0 1 objectInit, Cond.instanceMethod objectInit, Cond.code objectInit ⟨#[0xb1]⟩ 1 none, Cond.arrayClass .int, Cond.fieldLink RX0 11 "WordFoundry$Counts" "limbs" "[I", Cond.methodLink RX1 3 objectInit, Cond.fieldLink RX1 9 "WordFoundry$Dictionary" "names" "[I", Cond.fieldLink RX1 15 "WordFoundry$Dictionary" "vocabularies" "[I", Cond.fieldLink RX1 18 "WordFoundry$Dictionary" "kinds" "[I", Cond.arrayClass .boolean, Cond.fieldLink RX1 21 "WordFoundry$Dictionary" "immediates" "[Z", Cond.fieldLink RX1 25 "WordFoundry$Dictionary" "values" "[I", Cond.fieldLink RX1 28 "WordFoundry$Dictionary" "doingEntries" "[I", Cond.fieldLink RX1 31 "WordFoundry$Dictionary" "doingStarts" "[I", Cond.fieldLink RX1 34 "WordFoundry$Dictionary" "opCounts" "[I", Cond.fieldLink RX1 37 "WordFoundry$Dictionary" "opKinds" "[I", Cond.fieldLink RX1 40 "WordFoundry$Dictionary" "opNumbers" "[I", Cond.fieldLink RX1 43 "WordFoundry$Dictionary" "size" "I", Cond.methodLink RX1 47 yX1_has, Cond.instanceMethod yX1_has, Cond.initialized RX1, Cond.code yX1_has cX1_has 2 (some .boolean), Cond.selects RX1 yX1_has yX1_has, Cond.fieldLink RX1 68 "WordFoundry$Dictionary" "searchedVocabulary" "I"]
def plit_1 : List Cond := [Cond.methodLink RX2 3 objectInit, Cond.fieldLink RX2 9 "WordFoundry$Draft" "opKinds" "[I", Cond.fieldLink RX2 15 "WordFoundry$Draft" "opNumbers" "[I", Cond.fieldLink RX2 18 "WordFoundry$Draft" "owners" "[I", Cond.fieldLink RX2 21 "WordFoundry$Draft" "markKinds" "[I", Cond.fieldLink RX2 24 "WordFoundry$Draft" "markPlaces" "[I", Cond.fieldLink RX2 27 "WordFoundry$Draft" "markCounts" "[I", Cond.methodLink RX3 5 objectInit, Cond.fieldLink RX3 11 "WordFoundry$Effects" "known" "[Z", Cond.classLink RX3 15 RX0, Cond.instantiable RX0 1, Cond.initialized RX0, Cond.instanceMethod yX0_init, Cond.code yX0_init cX0_init 1 none, Cond.fieldLink RX3 18 "WordFoundry$Effects" "counts" "LWordFoundry$Counts;", Cond.fieldLink RX3 22 "WordFoundry$Effects" "reached" "[Z", Cond.fieldLink RX3 25 "WordFoundry$Effects" "ahead" "[I", Cond.fieldLink RX3 29 "WordFoundry$Effects" "dictionary" "LWordFoundry$Dictionary;", Cond.instanceMethod yX0_set, Cond.code yX0_set cX0_set 4 none, Cond.selects RX0 yX0_set yX0_set, Cond.methodLink RX4 3 objectInit, Cond.fieldLink RX4 9 "WordFoundry$FrameRunner" "codes" "[I", Cond.fieldLink RX4 15 "WordFoundry$FrameRunner" "places" "[I"]
def plit_2 : List Cond := [Cond.fieldLink RX4 18 "WordFoundry$FrameRunner" "waiting" "[Z", Cond.fieldLink RX4 22 "WordFoundry$FrameRunner" "machine" "LWordFoundry$Machine;", Cond.methodLink RX5 3 objectInit, Cond.fieldLink RX5 9 "WordFoundry$Line" "sorts" "[I", Cond.fieldLink RX5 15 "WordFoundry$Line" "values" "[I", Cond.fieldLink RX5 18 "WordFoundry$Line" "length" "I", Cond.fieldLink RX5 22 "WordFoundry$Line" "place" "I", Cond.methodLink RX6 3 objectInit, Cond.classLink RX6 9 RX10, Cond.instantiable RX10 4, Cond.initialized RX10, Cond.instanceMethod yX10_init, Cond.code yX10_init cX10_init 1 none, Cond.fieldLink RX6 12 "WordFoundry$Machine" "first" "LWordFoundry$Stack;", Cond.fieldLink RX6 18 "WordFoundry$Machine" "second" "LWordFoundry$Stack;", Cond.fieldLink RX6 21 "WordFoundry$Machine" "cells" "[I", Cond.classLink RX6 25 RX7, Cond.instantiable RX7 2, Cond.initialized RX7, Cond.instanceMethod yX7_init, Cond.code yX7_init cX7_init 1 none, Cond.fieldLink RX6 28 "WordFoundry$Machine" "printed" "LWordFoundry$Printed;", Cond.classLink RX6 32 RX1, Cond.instantiable RX1 13]
def plit_3 : List Cond := [Cond.instanceMethod yX1_init, Cond.code yX1_init cX1_init 1 none, Cond.fieldLink RX6 35 "WordFoundry$Machine" "dictionary" "LWordFoundry$Dictionary;", Cond.classLink RX6 39 RX2, Cond.instantiable RX2 11, Cond.initialized RX2, Cond.instanceMethod yX2_init, Cond.code yX2_init cX2_init 1 none, Cond.fieldLink RX6 42 "WordFoundry$Machine" "draft" "LWordFoundry$Draft;", Cond.classLink RX6 46 RX5, Cond.instantiable RX5 4, Cond.initialized RX5, Cond.instanceMethod yX5_init, Cond.code yX5_init cX5_init 1 none, Cond.fieldLink RX6 49 "WordFoundry$Machine" "line" "LWordFoundry$Line;", Cond.fieldLink RX6 53 "WordFoundry$Machine" "running" "[I", Cond.fieldLink RX6 56 "WordFoundry$Machine" "bases" "[I", Cond.fieldLink RX6 59 "WordFoundry$Machine" "mostSteps" "I", Cond.methodLink RX7 3 objectInit, Cond.fieldLink RX7 9 "WordFoundry$Printed" "numbers" "[I", Cond.methodLink RX8 3 objectInit, Cond.fieldLink RX8 9 "WordFoundry$RecursiveRunner" "machine" "LWordFoundry$Machine;", Cond.methodLink RX9 3 objectInit, Cond.classLink RX9 9 RX6]
def plit_4 : List Cond := [Cond.instantiable RX6 16, Cond.initialized RX6, Cond.instanceMethod yX6_init, Cond.code yX6_init cX6_init 2 none, Cond.fieldLink RX9 14 "WordFoundry$SoundCheck" "framed" "LWordFoundry$Machine;", Cond.classLink RX9 20 RX4, Cond.instantiable RX4 4, Cond.initialized RX4, Cond.instanceMethod yX4_init, Cond.code yX4_init cX4_init 2 none, Cond.fieldLink RX9 25 "WordFoundry$SoundCheck" "frames" "LWordFoundry$FrameRunner;", Cond.fieldLink RX9 29 "WordFoundry$SoundCheck" "recursed" "LWordFoundry$Machine;", Cond.classLink RX9 32 RX8, Cond.instantiable RX8 1, Cond.initialized RX8, Cond.instanceMethod yX8_init, Cond.code yX8_init cX8_init 2 none, Cond.fieldLink RX9 35 "WordFoundry$SoundCheck" "recursion" "LWordFoundry$RecursiveRunner;", Cond.methodLink RX10 3 objectInit, Cond.fieldLink RX10 9 "WordFoundry$Stack" "numbers" "[I", Cond.fieldLink RX10 15 "WordFoundry$Stack" "kept" "[I", Cond.fieldLink RX10 18 "WordFoundry$Stack" "keptSizes" "[I", Cond.methodLink RX11 1 objectInit, Cond.classLink RX11 7 RX6]
def plit_5 : List Cond := [Cond.fieldLink RX11 14 "WordFoundry" "machine" "LWordFoundry$Machine;", Cond.classLink RX11 18 RX4, Cond.fieldLink RX11 23 "WordFoundry" "runner" "LWordFoundry$FrameRunner;", Cond.classLink RX11 27 RX3, Cond.instantiable RX3 9, Cond.initialized RX3, Cond.instanceMethod yX3_init, Cond.code yX3_init cX3_init 3 none, Cond.fieldLink RX11 36 "WordFoundry" "effects" "LWordFoundry$Effects;", Cond.classLink RX11 40 RX9, Cond.instantiable RX9 4, Cond.initialized RX9, Cond.instanceMethod yX9_init, Cond.code yX9_init cX9_init 1 none, Cond.fieldLink RX11 43 "WordFoundry" "check" "LWordFoundry$SoundCheck;", Cond.fieldLink RX11 47 "WordFoundry" "trail" "[I", Cond.methodLink RX11 53 yJ0_indexOf_0f7a4, Cond.instanceMethod yJ0_indexOf_0f7a4, Cond.initialized RJ0, Cond.code yJ0_indexOf_0f7a4 cJ0_indexOf_0f7a4 2 (some .int), Cond.selects RJ0 yJ0_indexOf_0f7a4 yJ0_indexOf_0f7a4, Cond.classLink RX11 61 "java/lang/IllegalArgumentException", Cond.initialized "java/lang/IllegalArgumentException", Cond.instanceMethod yX5_isFull]
def plit_6 : List Cond := [Cond.code yX5_isFull cX5_isFull 1 (some .boolean), Cond.selects RX5 yX5_isFull yX5_isFull, Cond.classLink RX11 78 "java/lang/IllegalStateException", Cond.initialized "java/lang/IllegalStateException", Cond.instanceMethod yX5_add, Cond.code yX5_add cX5_add 3 (some .int), Cond.selects RX5 yX5_add yX5_add, Cond.instanceMethod yX5_hasMore, Cond.code yX5_hasMore cX5_hasMore 1 (some .boolean), Cond.selects RX5 yX5_hasMore yX5_hasMore, Cond.instanceMethod yX5_clear, Cond.code yX5_clear cX5_clear 1 none, Cond.selects RX5 yX5_clear yX5_clear, Cond.fieldLink RX11 106 "WordFoundry" "lineCount" "I", Cond.fieldLink RX11 109 "WordFoundry" "stepTotal" "J", Cond.fieldLink RX11 113 "WordFoundry" "failure" "I", Cond.fieldLink RX11 116 "WordFoundry" "trailLength" "I", Cond.fieldLink RX11 119 "WordFoundry" "failureCount" "I", Cond.classLink RX11 144 "java/util/NoSuchElementException", Cond.initialized "java/util/NoSuchElementException", Cond.classLink RX11 149 "java/lang/IndexOutOfBoundsException", Cond.initialized "java/lang/IndexOutOfBoundsException", Cond.instanceMethod yX1_search, Cond.code yX1_search cX1_search 4 (some .int)]
def plit_7 : List Cond := [Cond.selects RX1 yX1_search yX1_search, Cond.instanceMethod yX1_hasOp, Cond.code yX1_hasOp cX1_hasOp 3 (some .boolean), Cond.selects RX1 yX1_hasOp yX1_hasOp, Cond.instanceMethod yX3_measureThrough, Cond.code yX3_measureThrough cX3_measureThrough 3 none, Cond.selects RX3 yX3_measureThrough yX3_measureThrough, Cond.classLink RX11 242 "java/lang/UnsupportedOperationException", Cond.initialized "java/lang/UnsupportedOperationException", Cond.classLink RX11 259 "java/lang/ArithmeticException", Cond.initialized "java/lang/ArithmeticException", Cond.methodLink RX14 1 objectInit, Cond.fieldLink RX14 7 "WordFoundryModel$Op" "kind" "C", Cond.fieldLink RX14 13 "WordFoundryModel$Op" "number" "I", Cond.methodLink RX17 1 objectInit, Cond.classLink RX17 7 RJx4a65c, Cond.instantiable RJx4a65c 3, Cond.initialized RJx4a65c, Cond.methodLink RX17 9 yJx4a65c_init_da8c8, Cond.instanceMethod yJx4a65c_init_da8c8, Cond.code yJx4a65c_init_da8c8 cJx4a65c_init_da8c8 1 none, Cond.fieldLink RX17 10 "WordFoundryModel" "line" "Ljava/util/ArrayList;", Cond.fieldLink RX17 16 "WordFoundryModel" "entries" "Ljava/util/ArrayList;", Cond.fieldLink RX17 19 "WordFoundryModel" "stack" "Ljava/util/ArrayList;"]
def plit_8 : List Cond := [Cond.fieldLink RX17 22 "WordFoundryModel" "second" "Ljava/util/ArrayList;", Cond.fieldLink RX17 25 "WordFoundryModel" "outs" "Ljava/util/ArrayList;", Cond.fieldLink RX17 28 "WordFoundryModel" "running" "Ljava/util/ArrayList;", Cond.fieldLink RX17 31 "WordFoundryModel" "parts" "Ljava/util/ArrayList;", Cond.fieldLink RX17 34 "WordFoundryModel" "trace" "Ljava/util/ArrayList;", Cond.fieldLink RX17 37 "WordFoundryModel" "marks" "Ljava/util/ArrayList;", Cond.fieldLink RX17 40 "WordFoundryModel" "cells" "[I", Cond.fieldLink RX17 44 "WordFoundryModel" "needs" "[I", Cond.fieldLink RX17 47 "WordFoundryModel" "there" "[I", Cond.fieldLink RX17 50 "WordFoundryModel" "heights" "[I", Cond.fieldLink RX17 53 "WordFoundryModel" "hasEffect" "[Z", Cond.fieldLink RX17 57 "WordFoundryModel" "isReached" "[Z", Cond.fieldLink RX17 60 "WordFoundryModel" "thrown" "I", Cond.methodLink RX17 67 yJx4a65c_size_8abf5, Cond.instanceMethod yJx4a65c_size_8abf5, Cond.code yJx4a65c_size_8abf5 cJx4a65c_size_8abf5 1 (some .int), Cond.selects RJx4a65c yJx4a65c_size_8abf5 yJx4a65c_size_8abf5, Cond.fieldLink RX17 130 "WordFoundryModel" "searched" "I", Cond.methodLink RX17 133 yX17_foundIn, Cond.instanceMethod yX17_foundIn, Cond.initialized RX17, Cond.code yX17_foundIn cX17_foundIn 4 (some .int), Cond.selects RX17 yX17_foundIn yX17_foundIn, Cond.methodLink RX17 366 yX17_fails]
def plit_9 : List Cond := [Cond.instanceMethod yX17_fails, Cond.code yX17_fails cX17_fails 2 (some .int), Cond.selects RX17 yX17_fails yX17_fails, Cond.classLink RX17 113 RX14, Cond.instantiable RX14 2, Cond.initialized RX14, Cond.methodLink RX17 152 yX14_init, Cond.instanceMethod yX14_init, Cond.code yX14_init cX14_init 3 none, Cond.methodLink RX17 77 yJx4a65c_add_9ea2d, Cond.instanceMethod yJx4a65c_add_9ea2d, Cond.code yJx4a65c_add_9ea2d cJx4a65c_add_9ea2d 2 (some .boolean), Cond.selects RJx4a65c yJx4a65c_add_9ea2d yJx4a65c_add_9ea2d, Cond.methodLink RX17 369 yX17_tell, Cond.instanceMethod yX17_tell, Cond.code yX17_tell cX17_tell 2 (some .int), Cond.selects RX17 yX17_tell yX17_tell, Cond.methodLink RX17 234 yJ0_indexOf_0f7a4, Cond.methodLink RX17 374 yX17_puts, Cond.instanceMethod yX17_puts, Cond.code yX17_puts cX17_puts 3 (some .int), Cond.selects RX17 yX17_puts yX17_puts, Cond.methodLink RX17 278 yX17_in, Cond.static yX17_in]
def plit_10 : List Cond := [Cond.code yX17_in cX17_in 3 (some .boolean), Cond.fieldLink RX17 386 "WordFoundryModel" "lines" "I", Cond.fieldLink RX17 110 "WordFoundryModel" "at" "I", Cond.fieldLink RX17 155 "WordFoundryModel" "base" "I", Cond.fieldLink RX17 86 "WordFoundryModel" "spent" "I", Cond.fieldLink RX17 380 "WordFoundryModel" "hasError" "Z", Cond.methodLink RX17 64 yJx4a65c_clear_da8c8, Cond.instanceMethod yJx4a65c_clear_da8c8, Cond.code yJx4a65c_clear_da8c8 cJx4a65c_clear_da8c8 4 none, Cond.selects RJx4a65c yJx4a65c_clear_da8c8 yJx4a65c_clear_da8c8, Cond.fieldLink RX17 303 "WordFoundryModel" "isCompiling" "Z", Cond.fieldLink RX17 378 "WordFoundryModel" "error" "I", Cond.fieldLink RX17 188 "WordFoundryModel" "here" "I", Cond.methodLink RX17 396 yX17_isEntry, Cond.instanceMethod yX17_isEntry, Cond.code yX17_isEntry cX17_isEntry 2 (some .boolean), Cond.selects RX17 yX17_isEntry yX17_isEntry, Cond.methodLink RX17 137 yX17_found, Cond.instanceMethod yX17_found, Cond.code yX17_found cX17_found 3 (some .int), Cond.selects RX17 yX17_found yX17_found, Cond.methodLink RX17 400 yX17_isOp, Cond.instanceMethod yX17_isOp, Cond.code yX17_isOp cX17_isOp 3 (some .boolean)]
def plit_11 : List Cond := [Cond.selects RX17 yX17_isOp yX17_isOp, Cond.fieldLink RX17 145 "WordFoundryModel" "making" "LWordFoundryModel$Entry;", Cond.fieldLink RX17 92 "WordFoundryModel" "steps" "J", Cond.fieldLink RX17 383 "WordFoundryModel" "errors" "I", Cond.methodLink RL 7 yX11_word, Cond.instanceMethod yX11_word, Cond.initialized RX11, Cond.code yX11_word cX11_word 2 (some .int), Cond.selects RX11 yX11_word yX11_word, Cond.methodLink RL 17 yX11_name, Cond.instanceMethod yX11_name, Cond.code yX11_name cX11_name 2 (some .int), Cond.selects RX11 yX11_name yX11_name, Cond.methodLink RL 21 yX11_number, Cond.instanceMethod yX11_number, Cond.code yX11_number cX11_number 2 (some .int), Cond.selects RX11 yX11_number yX11_number, Cond.methodLink RL 24 yX11_error, Cond.instanceMethod yX11_error, Cond.code yX11_error cX11_error 1 (some .int), Cond.selects RX11 yX11_error yX11_error, Cond.methodLink RL 30 yX11_traceAt, Cond.instanceMethod yX11_traceAt, Cond.code yX11_traceAt cX11_traceAt 2 (some .int)]
def plit_12 : List Cond := [Cond.selects RX11 yX11_traceAt yX11_traceAt, Cond.methodLink RL 35 yX11_at, Cond.instanceMethod yX11_at, Cond.code yX11_at cX11_at 2 (some .int), Cond.selects RX11 yX11_at yX11_at, Cond.methodLink RL 38 yX11_cell, Cond.instanceMethod yX11_cell, Cond.code yX11_cell cX11_cell 2 (some .int), Cond.selects RX11 yX11_cell yX11_cell, Cond.methodLink RL 41 yX11_outAt, Cond.instanceMethod yX11_outAt, Cond.code yX11_outAt cX11_outAt 2 (some .int), Cond.selects RX11 yX11_outAt yX11_outAt, Cond.methodLink RL 44 yX11_nameOf, Cond.instanceMethod yX11_nameOf, Cond.code yX11_nameOf cX11_nameOf 2 (some .int), Cond.selects RX11 yX11_nameOf yX11_nameOf, Cond.methodLink RL 47 yX11_kindOf, Cond.instanceMethod yX11_kindOf, Cond.code yX11_kindOf cX11_kindOf 2 (some .char), Cond.selects RX11 yX11_kindOf yX11_kindOf, Cond.methodLink RL 51 yX11_isImmediate, Cond.instanceMethod yX11_isImmediate, Cond.code yX11_isImmediate cX11_isImmediate 2 (some .boolean)]
def plit_13 : List Cond := [Cond.selects RX11 yX11_isImmediate yX11_isImmediate, Cond.methodLink RL 55 yX11_vocabularyOf, Cond.instanceMethod yX11_vocabularyOf, Cond.code yX11_vocabularyOf cX11_vocabularyOf 2 (some .int), Cond.selects RX11 yX11_vocabularyOf yX11_vocabularyOf, Cond.methodLink RL 58 yX11_find, Cond.instanceMethod yX11_find, Cond.code yX11_find cX11_find 3 (some .int), Cond.selects RX11 yX11_find yX11_find, Cond.methodLink RL 61 yX11_ops, Cond.instanceMethod yX11_ops, Cond.code yX11_ops cX11_ops 2 (some .int), Cond.selects RX11 yX11_ops yX11_ops, Cond.methodLink RL 64 yX11_opAt, Cond.instanceMethod yX11_opAt, Cond.code yX11_opAt cX11_opAt 3 (some .char), Cond.selects RX11 yX11_opAt yX11_opAt, Cond.methodLink RL 68 yX11_opNumber, Cond.instanceMethod yX11_opNumber, Cond.code yX11_opNumber cX11_opNumber 3 (some .int), Cond.selects RX11 yX11_opNumber yX11_opNumber, Cond.methodLink RL 72 yX11_effect, Cond.instanceMethod yX11_effect, Cond.code yX11_effect cX11_effect 2 (some .int)]
def plit_14 : List Cond := [Cond.selects RX11 yX11_effect yX11_effect, Cond.methodLink RL 77 yX11_errorShare, Cond.instanceMethod yX11_errorShare, Cond.code yX11_errorShare cX11_errorShare 1 (some .float), Cond.selects RX11 yX11_errorShare yX11_errorShare, Cond.methodLink RL 83 yX11_meanSteps, Cond.instanceMethod yX11_meanSteps, Cond.code yX11_meanSteps cX11_meanSteps 1 (some .double), Cond.selects RX11 yX11_meanSteps yX11_meanSteps, Cond.classLink RL 8 RX11, Cond.instantiable RX11 10, Cond.methodLink RL 87 yX11_init, Cond.instanceMethod yX11_init, Cond.code yX11_init cX11_init 1 none, Cond.classLink RL 88 RX17, Cond.instantiable RX17 31, Cond.methodLink RL 90 yX17_init, Cond.instanceMethod yX17_init, Cond.code yX17_init cX17_init 1 none, Cond.arrayClass .long, Cond.arrayClass .double, Cond.methodLink RL 91 yL_word, Cond.static yL_word, Cond.initialized RL]
def plit_15 : List Cond := [Cond.methodLink RL 96 yX17_word, Cond.instanceMethod yX17_word, Cond.code yX17_word cX17_word 2 (some .int), Cond.selects RX17 yX17_word yX17_word, Cond.methodLink RL 97 yX17_thrown, Cond.instanceMethod yX17_thrown, Cond.code yX17_thrown cX17_thrown 1 (some .int), Cond.selects RX17 yX17_thrown yX17_thrown, Cond.methodLink RL 100 yL_name, Cond.static yL_name, Cond.methodLink RL 103 yX17_name, Cond.instanceMethod yX17_name, Cond.code yX17_name cX17_name 2 (some .int), Cond.selects RX17 yX17_name yX17_name, Cond.methodLink RL 104 yL_number, Cond.static yL_number, Cond.methodLink RL 106 yX17_number, Cond.instanceMethod yX17_number, Cond.code yX17_number cX17_number 2 (some .int), Cond.selects RX17 yX17_number yX17_number, Cond.methodLink RL 107 yX11_enter, Cond.instanceMethod yX11_enter, Cond.code yX11_enter cX11_enter 3 (some .char), Cond.selects RX11 yX11_enter yX11_enter]
def plit_16 : List Cond := [Cond.methodLink RL 111 yX17_enter, Cond.instanceMethod yX17_enter, Cond.selects RX17 yX17_enter yX17_enter, Cond.methodLink RL 112 yL_error, Cond.static yL_error, Cond.methodLink RL 115 yX17_error_, Cond.instanceMethod yX17_error_, Cond.code yX17_error_ cX17_error_ 1 (some .int), Cond.selects RX17 yX17_error_ yX17_error_, Cond.methodLink RL 116 yX11_trace, Cond.instanceMethod yX11_trace, Cond.code yX11_trace cX11_trace 1 (some .int), Cond.selects RX11 yX11_trace yX11_trace, Cond.methodLink RL 119 yX17_trace, Cond.instanceMethod yX17_trace, Cond.code yX17_trace cX17_trace 1 (some .int), Cond.selects RX17 yX17_trace yX17_trace, Cond.methodLink RL 120 yL_traceAt, Cond.static yL_traceAt, Cond.methodLink RL 122 yX17_traceAt, Cond.instanceMethod yX17_traceAt, Cond.code yX17_traceAt cX17_traceAt 2 (some .int), Cond.selects RX17 yX17_traceAt yX17_traceAt, Cond.methodLink RL 123 yX11_depth]
def plit_17 : List Cond := [Cond.instanceMethod yX11_depth, Cond.code yX11_depth cX11_depth 1 (some .int), Cond.selects RX11 yX11_depth yX11_depth, Cond.methodLink RL 126 yX17_depth, Cond.instanceMethod yX17_depth, Cond.code yX17_depth cX17_depth 1 (some .int), Cond.selects RX17 yX17_depth yX17_depth, Cond.methodLink RL 127 yL_at, Cond.static yL_at, Cond.methodLink RL 129 yX17_at, Cond.instanceMethod yX17_at, Cond.code yX17_at cX17_at 2 (some .int), Cond.selects RX17 yX17_at yX17_at, Cond.methodLink RL 130 yX11_second, Cond.instanceMethod yX11_second, Cond.code yX11_second cX11_second 1 (some .int), Cond.selects RX11 yX11_second yX11_second, Cond.methodLink RL 133 yX17_second, Cond.instanceMethod yX17_second, Cond.code yX17_second cX17_second 1 (some .int), Cond.selects RX17 yX17_second yX17_second, Cond.methodLink RL 134 yX11_here, Cond.instanceMethod yX11_here, Cond.code yX11_here cX11_here 1 (some .int)]
def plit_18 : List Cond := [Cond.selects RX11 yX11_here yX11_here, Cond.methodLink RL 137 yX17_here, Cond.instanceMethod yX17_here, Cond.code yX17_here cX17_here 1 (some .int), Cond.selects RX17 yX17_here yX17_here, Cond.methodLink RL 138 yL_cell, Cond.static yL_cell, Cond.methodLink RL 140 yX17_cell, Cond.instanceMethod yX17_cell, Cond.code yX17_cell cX17_cell 2 (some .int), Cond.selects RX17 yX17_cell yX17_cell, Cond.methodLink RL 141 yX11_outs, Cond.instanceMethod yX11_outs, Cond.code yX11_outs cX11_outs 1 (some .int), Cond.selects RX11 yX11_outs yX11_outs, Cond.methodLink RL 144 yX17_outs, Cond.instanceMethod yX17_outs, Cond.code yX17_outs cX17_outs 1 (some .int), Cond.selects RX17 yX17_outs yX17_outs, Cond.methodLink RL 145 yL_outAt, Cond.static yL_outAt, Cond.methodLink RL 147 yX17_outAt, Cond.instanceMethod yX17_outAt, Cond.code yX17_outAt cX17_outAt 2 (some .int)]
def plit_19 : List Cond := [Cond.selects RX17 yX17_outAt yX17_outAt, Cond.methodLink RL 148 yX11_entries, Cond.instanceMethod yX11_entries, Cond.code yX11_entries cX11_entries 1 (some .int), Cond.selects RX11 yX11_entries yX11_entries, Cond.methodLink RL 151 yX17_entries, Cond.instanceMethod yX17_entries, Cond.code yX17_entries cX17_entries 1 (some .int), Cond.selects RX17 yX17_entries yX17_entries, Cond.methodLink RL 152 yL_nameOf, Cond.static yL_nameOf, Cond.methodLink RL 154 yX17_nameOf, Cond.instanceMethod yX17_nameOf, Cond.code yX17_nameOf cX17_nameOf 2 (some .int), Cond.selects RX17 yX17_nameOf yX17_nameOf, Cond.methodLink RL 155 yL_kindOf, Cond.static yL_kindOf, Cond.methodLink RL 157 yX17_kindOf, Cond.instanceMethod yX17_kindOf, Cond.code yX17_kindOf cX17_kindOf 2 (some .char), Cond.selects RX17 yX17_kindOf yX17_kindOf, Cond.methodLink RL 158 yL_isImmediate, Cond.static yL_isImmediate, Cond.methodLink RL 160 yX17_isImmediate]
def plit_20 : List Cond := [Cond.instanceMethod yX17_isImmediate, Cond.code yX17_isImmediate cX17_isImmediate 2 (some .boolean), Cond.selects RX17 yX17_isImmediate yX17_isImmediate, Cond.methodLink RL 161 yL_vocabularyOf, Cond.static yL_vocabularyOf, Cond.methodLink RL 163 yX17_vocabularyOf, Cond.instanceMethod yX17_vocabularyOf, Cond.code yX17_vocabularyOf cX17_vocabularyOf 2 (some .int), Cond.selects RX17 yX17_vocabularyOf yX17_vocabularyOf, Cond.methodLink RL 164 yL_find, Cond.static yL_find, Cond.methodLink RL 166 yX17_find, Cond.instanceMethod yX17_find, Cond.code yX17_find cX17_find 3 (some .int), Cond.selects RX17 yX17_find yX17_find, Cond.methodLink RL 167 yL_ops, Cond.static yL_ops, Cond.methodLink RL 169 yX17_ops, Cond.instanceMethod yX17_ops, Cond.code yX17_ops cX17_ops 2 (some .int), Cond.selects RX17 yX17_ops yX17_ops, Cond.methodLink RL 170 yL_opAt, Cond.static yL_opAt, Cond.methodLink RL 173 yX17_opAt]
def plit_21 : List Cond := [Cond.instanceMethod yX17_opAt, Cond.code yX17_opAt cX17_opAt 3 (some .char), Cond.selects RX17 yX17_opAt yX17_opAt, Cond.methodLink RL 174 yL_opNumber, Cond.static yL_opNumber, Cond.methodLink RL 176 yX17_opNumber, Cond.instanceMethod yX17_opNumber, Cond.code yX17_opNumber cX17_opNumber 3 (some .int), Cond.selects RX17 yX17_opNumber yX17_opNumber, Cond.methodLink RL 177 yL_effect, Cond.static yL_effect, Cond.methodLink RL 179 yX17_effect, Cond.instanceMethod yX17_effect, Cond.code yX17_effect cX17_effect 2 (some .int), Cond.selects RX17 yX17_effect yX17_effect, Cond.methodLink RL 180 yX11_isMaking, Cond.instanceMethod yX11_isMaking, Cond.code yX11_isMaking cX11_isMaking 1 (some .boolean), Cond.selects RX11 yX11_isMaking yX11_isMaking, Cond.methodLink RL 184 yX17_isMaking, Cond.instanceMethod yX17_isMaking, Cond.code yX17_isMaking cX17_isMaking 1 (some .boolean), Cond.selects RX17 yX17_isMaking yX17_isMaking, Cond.methodLink RL 185 yX11_steps]
def plit_22 : List Cond := [Cond.instanceMethod yX11_steps, Cond.code yX11_steps cX11_steps 1 (some .long), Cond.selects RX11 yX11_steps yX11_steps, Cond.methodLink RL 189 yX17_steps, Cond.instanceMethod yX17_steps, Cond.code yX17_steps cX17_steps 1 (some .long), Cond.selects RX17 yX17_steps yX17_steps, Cond.methodLink RL 190 yX11_lines, Cond.instanceMethod yX11_lines, Cond.code yX11_lines cX11_lines 1 (some .int), Cond.selects RX11 yX11_lines yX11_lines, Cond.methodLink RL 193 yX17_lines, Cond.instanceMethod yX17_lines, Cond.code yX17_lines cX17_lines 1 (some .int), Cond.selects RX17 yX17_lines yX17_lines, Cond.methodLink RL 194 yL_errorShare, Cond.static yL_errorShare, Cond.methodLink RL 197 yX17_errorShare, Cond.instanceMethod yX17_errorShare, Cond.code yX17_errorShare cX17_errorShare 1 (some .float), Cond.selects RX17 yX17_errorShare yX17_errorShare, Cond.methodLink RL 198 yL_meanSteps, Cond.static yL_meanSteps, Cond.methodLink RL 200 yX17_meanSteps]
def plit_23 : List Cond := [Cond.instanceMethod yX17_meanSteps, Cond.code yX17_meanSteps cX17_meanSteps 1 (some .double), Cond.selects RX17 yX17_meanSteps yX17_meanSteps, Cond.methodLink RL 201 yX11_isSound, Cond.instanceMethod yX11_isSound, Cond.code yX11_isSound cX11_isSound 5 (some .boolean), Cond.selects RX11 yX11_isSound yX11_isSound, Cond.methodLink RL 204 yX17_isSound, Cond.instanceMethod yX17_isSound, Cond.code yX17_isSound cX17_isSound 1 (some .boolean), Cond.selects RX17 yX17_isSound yX17_isSound, Cond.methodLink RJxa1e45 1 objectInit, Cond.methodLink RJxc12de 1 yJxa1e45_init_da8c8, Cond.instanceMethod yJxa1e45_init_da8c8, Cond.initialized RJxa1e45, Cond.code yJxa1e45_init_da8c8 cJxa1e45_init_da8c8 1 none, Cond.fieldLink RJxc12de 7 "java/util/AbstractList" "modCount" "I", Cond.methodLink RJx4a65c 1 yJxc12de_init_da8c8, Cond.instanceMethod yJxc12de_init_da8c8, Cond.initialized RJxc12de, Cond.code yJxc12de_init_da8c8 cJxc12de_init_da8c8 1 none, Cond.fieldLink RJx4a65c 39 "java/util/ArrayList" "DEFAULTCAPACITY_EMPTY_ELEMENTDATA" "[Ljava/lang/Object;", Cond.fieldLink RJx4a65c 9 "java/util/ArrayList" "elementData" "[Ljava/lang/Object;", Cond.fieldLink RJx4a65c 48 "java/util/ArrayList" "size" "I"]
def plit_24 : List Cond := [Cond.fieldLink RJx4a65c 63 "java/util/ArrayList" "modCount" "I", Cond.methodLink RJx4a65c 131 yJx4a65c_add_72be8, Cond.instanceMethod yJx4a65c_add_72be8, Cond.code yJx4a65c_add_72be8 cJx4a65c_add_72be8 4 none, Cond.selects RJx4a65c yJx4a65c_add_72be8 yJx4a65c_add_72be8, Cond.methodLink RJx4a65c 129 yJx4a65c_grow_d5877, Cond.instanceMethod yJx4a65c_grow_d5877, Cond.code yJx4a65c_grow_d5877 cJx4a65c_grow_d5877 1 (some (.array (.object "java/lang/Object"))), Cond.selects RJx4a65c yJx4a65c_grow_d5877 yJx4a65c_grow_d5877, Cond.methodLink RJx4a65c 69 yJx4a65c_grow_92f84, Cond.instanceMethod yJx4a65c_grow_92f84, Cond.code yJx4a65c_grow_92f84 cJx4a65c_grow_92f84 4 (some (.array (.object "java/lang/Object"))), Cond.selects RJx4a65c yJx4a65c_grow_92f84 yJx4a65c_grow_92f84, Cond.classLink RJx4a65c 7 "java/lang/Object", Cond.methodLink RJ0 633 yJ0_indexOf_7cf53, Cond.instanceMethod yJ0_indexOf_7cf53, Cond.code yJ0_indexOf_7cf53 cJ0_indexOf_7cf53 3 (some .int), Cond.selects RJ0 yJ0_indexOf_7cf53 yJ0_indexOf_7cf53, Cond.methodLink RJ0 492 yJ0_isLatin1_aae02, Cond.instanceMethod yJ0_isLatin1_aae02, Cond.code yJ0_isLatin1_aae02 cJ0_isLatin1_aae02 1 (some .boolean), Cond.selects RJ0 yJ0_isLatin1_aae02 yJ0_isLatin1_aae02, Cond.fieldLink RJ0 9 "java/lang/String" "value" "[B", Cond.methodLink RJ0 505 yJ0_length_8abf5]
def plit_25 : List Cond := [Cond.instanceMethod yJ0_length_8abf5, Cond.code yJ0_length_8abf5 cJ0_length_8abf5 1 (some .int), Cond.selects RJ0 yJ0_length_8abf5 yJ0_length_8abf5, Cond.methodLink RJ0 637 yJ1_indexOf_4cfef, Cond.static yJ1_indexOf_4cfef, Cond.initialized RJ1, Cond.code yJ1_indexOf_4cfef cJ1_indexOf_4cfef 4 (some .int), Cond.fieldLink RJ0 38 "java/lang/String" "COMPACT_STRINGS" "Z", Cond.fieldLink RJ0 15 "java/lang/String" "coder" "B", Cond.methodLink RJ0 335 yJ0_coder_7d493, Cond.instanceMethod yJ0_coder_7d493, Cond.code yJ0_coder_7d493 cJ0_coder_7d493 1 (some .byte), Cond.selects RJ0 yJ0_coder_7d493 yJ0_coder_7d493, Cond.methodLink RJ1 88 yJ1_canEncode_9a6ad, Cond.static yJ1_canEncode_9a6ad, Cond.code yJ1_canEncode_9a6ad cJ1_canEncode_9a6ad 1 (some .boolean), Cond.methodLink RJ1 95 yJ1_indexOfChar_4cfef, Cond.static yJ1_indexOfChar_4cfef, Cond.code yJ1_indexOfChar_4cfef cJ1_indexOfChar_4cfef 6 (some .int), Cond.sameField "java/util/ArrayList" "java/util/AbstractList" "modCount" "I"]
def plit : List Cond := plit_0 ++ (plit_1 ++ (plit_2 ++ (plit_3 ++ (plit_4 ++ (plit_5 ++ (plit_6 ++ (plit_7 ++ (plit_8 ++ (plit_9 ++ (plit_10 ++ (plit_11 ++ (plit_12 ++ (plit_13 ++ (plit_14 ++ (plit_15 ++ (plit_16 ++ (plit_17 ++ (plit_18 ++ (plit_19 ++ (plit_20 ++ (plit_21 ++ (plit_22 ++ (plit_23 ++ (plit_24 ++ (plit_25)))))))))))))))))))))))))
def pw : List Cond := plit ++ (u_ws RJx4a65c TJx4a65c 3 ++ (u_ws RX0 TX0 1 ++ (u_ws RX1 TX1 13 ++ (u_ws RX2 TX2 11 ++ (u_ws RX3 TX3 9 ++ (u_ws RX4 TX4 4 ++ (u_ws RX5 TX5 4 ++ (u_ws RX6 TX6 16 ++ (u_ws RX7 TX7 2 ++ (u_ws RX8 TX8 1 ++ (u_ws RX9 TX9 4 ++ (u_ws RX10 TX10 4 ++ (u_ws RX11 TX11 10 ++ (u_ws RX14 TX14 2 ++ (u_ws RX17 TX17 31)))))))))))))))
theorem p_places {big : List Cond} (ws : List Cond) (ps : List Nat) (hp : ws = ps.filterMap (fun i => big[i]?)) : ∀ w ∈ ws, w ∈ big := by
  intro w hw
  rw [hp] at hw
  obtain ⟨i, -, hi⟩ := List.mem_filterMap.mp hw
  first | exact List.mem_of_getElem? hi | exact List.getElem?_mem hi
set_option maxRecDepth 100000 in
theorem plit_0_tbl : ∀ w ∈ plit_0, w ∈ lw_tbl := p_places _ [518, 223, 224, 252, 519, 274, 275, 277, 279, 343, 285, 289, 293, 298, 303, 306, 307, 308, 1040, 665, 174, 666, 10, 314] (by decide +kernel)
set_option maxRecDepth 100000 in
theorem plit_1_tbl : ∀ w ∈ plit_1, w ∈ lw_tbl := p_places _ [349, 350, 352, 354, 355, 356, 357, 512, 528, 513, 514, 179, 516, 517, 530, 531, 532, 527, 525, 526, 0, 493, 495, 496] (by decide +kernel)
set_option maxRecDepth 100000 in
theorem plit_2_tbl : ∀ w ∈ plit_2, w ∈ lw_tbl := p_places _ [497, 494, 398, 399, 400, 401, 403, 230, 231, 232, 172, 234, 235, 414, 418, 420, 253, 254, 173, 256, 257, 422, 269, 270] (by decide +kernel)
set_option maxRecDepth 100000 in
theorem plit_3_tbl : ∀ w ∈ plit_3, w ∈ lw_tbl := p_places _ [272, 273, 425, 344, 345, 175, 347, 348, 428, 393, 394, 176, 396, 397, 431, 434, 436, 437, 258, 259, 571, 572, 561, 562] (by decide +kernel)
set_option maxRecDepth 100000 in
theorem plit_4_tbl : ∀ w ∈ plit_4, w ∈ lw_tbl := p_places _ [226, 171, 228, 229, 576, 564, 489, 177, 491, 492, 578, 580, 566, 567, 181, 569, 570, 581, 236, 237, 238, 239, 222, 225] (by decide +kernel)
set_option maxRecDepth 100000 in
theorem plit_5_tbl : ∀ w ∈ plit_5, w ∈ lw_tbl := p_places _ [592, 488, 593, 507, 508, 178, 510, 511, 594, 556, 557, 180, 559, 560, 595, 596, 1298, 694, 186, 696, 695, 1300, 195, 1375] (by decide +kernel)
set_option maxRecDepth 100000 in
theorem plit_6_tbl : ∀ w ∈ plit_6, w ∈ lw_tbl := p_places _ [1376, 110, 1377, 196, 1395, 1396, 111, 629, 630, 1, 1084, 1085, 77, 599, 601, 598, 597, 600, 1420, 211, 1467, 205, 661, 662] (by decide +kernel)
set_option maxRecDepth 100000 in
theorem plit_7_tbl : ∀ w ∈ plit_7, w ∈ lw_tbl := p_places _ [9, 1038, 1039, 66, 1142, 1143, 81, 1577, 215, 1622, 216, 1789, 1790, 1792, 1637, 1638, 1639, 185, 1640, 1641, 1642, 1667, 1668, 1669] (by decide +kernel)
set_option maxRecDepth 100000 in
theorem plit_8_tbl : ∀ w ∈ plit_8, w ∈ lw_tbl := p_places _ [1670, 1671, 1672, 1673, 1674, 1675, 1676, 1691, 1692, 1693, 1694, 1695, 1680, 1780, 1781, 1783, 1782, 1683, 2322, 2324, 182, 2325, 143, 1772] (by decide +kernel)
set_option maxRecDepth 100000 in
theorem plit_9_tbl : ∀ w ∈ plit_9, w ∈ lw_tbl := p_places _ [1774, 1775, 114, 1784, 1785, 197, 1786, 1787, 1788, 1799, 1800, 1802, 1801, 1868, 1870, 1871, 119, 1770, 1776, 1778, 1779, 115, 1876, 1877] (by decide +kernel)
set_option maxRecDepth 100000 in
theorem plit_10_tbl : ∀ w ∈ plit_10, w ∈ lw_tbl := p_places _ [1878, 1687, 1684, 1685, 1686, 1679, 1937, 1938, 1940, 1939, 1678, 1689, 1681, 2548, 2550, 2551, 162, 2318, 2320, 2321, 142, 2576, 2578, 2579] (by decide +kernel)
set_option maxRecDepth 100000 in
theorem plit_11_tbl : ∀ w ∈ plit_11, w ∈ lw_tbl := p_places _ [163, 1677, 1690, 1688, 1293, 1294, 170, 1296, 1295, 1400, 1401, 1403, 1402, 1408, 1409, 1411, 1410, 1416, 1417, 1419, 1418, 1463, 1464, 1466] (by decide +kernel)
set_option maxRecDepth 100000 in
theorem plit_12_tbl : ∀ w ∈ plit_12, w ∈ lw_tbl := p_places _ [1465, 1483, 1484, 1486, 1485, 1492, 1493, 1495, 1494, 1500, 1501, 1503, 1502, 1508, 1509, 1511, 1510, 1517, 1518, 1520, 1519, 1524, 1525, 1527] (by decide +kernel)
set_option maxRecDepth 100000 in
theorem plit_13_tbl : ∀ w ∈ plit_13, w ∈ lw_tbl := p_places _ [1526, 1531, 1532, 1534, 1533, 1538, 1539, 1541, 1540, 1547, 1548, 1550, 1549, 1554, 1555, 1557, 1556, 1564, 1565, 1567, 1566, 1573, 1574, 1576] (by decide +kernel)
set_option maxRecDepth 100000 in
theorem plit_14_tbl : ∀ w ∈ plit_14, w ∈ lw_tbl := p_places _ [1575, 1618, 1619, 1621, 1620, 1628, 1629, 1631, 1630, 217, 218, 219, 220, 221, 1632, 1633, 1634, 1635, 1636, 2637, 2638, 1288, 1289, 169] (by decide +kernel)
set_option maxRecDepth 100000 in
theorem plit_15_tbl : ∀ w ∈ plit_15, w ∈ lw_tbl := p_places _ [1765, 1766, 1768, 1767, 1761, 1762, 1764, 1763, 1397, 1398, 1872, 1873, 1875, 1874, 1405, 1406, 1879, 1880, 1882, 1881, 623, 624, 626, 625] (by decide +kernel)
set_option maxRecDepth 100000 in
theorem plit_16_tbl : ∀ w ∈ plit_16, w ∈ lw_tbl := p_places _ [1883, 1884, 1885, 1412, 1413, 2500, 2501, 2503, 2502, 1100, 1101, 1103, 1102, 2504, 2505, 2507, 2506, 1436, 1437, 2508, 2509, 2511, 2510, 1104] (by decide +kernel)
set_option maxRecDepth 100000 in
theorem plit_17_tbl : ∀ w ∈ plit_17, w ∈ lw_tbl := p_places _ [1105, 1107, 1106, 2512, 2513, 2515, 2514, 1480, 1481, 2516, 2517, 2519, 2518, 1108, 1109, 1111, 1110, 2520, 2521, 2523, 2522, 1112, 1113, 1115] (by decide +kernel)
set_option maxRecDepth 100000 in
theorem plit_18_tbl : ∀ w ∈ plit_18, w ∈ lw_tbl := p_places _ [1114, 2524, 2525, 2527, 2526, 1489, 1490, 2528, 2529, 2531, 2530, 1116, 1117, 1119, 1118, 2532, 2533, 2535, 2534, 1497, 1498, 2536, 2537, 2539] (by decide +kernel)
set_option maxRecDepth 100000 in
theorem plit_19_tbl : ∀ w ∈ plit_19, w ∈ lw_tbl := p_places _ [2538, 1120, 1121, 1123, 1122, 2540, 2541, 2543, 2542, 1505, 1506, 2544, 2545, 2547, 2546, 1514, 1515, 2552, 2553, 2555, 2554, 1521, 1522, 2556] (by decide +kernel)
set_option maxRecDepth 100000 in
theorem plit_20_tbl : ∀ w ∈ plit_20, w ∈ lw_tbl := p_places _ [2557, 2559, 2558, 1528, 1529, 2560, 2561, 2563, 2562, 1535, 1536, 2564, 2565, 2567, 2566, 1544, 1545, 2568, 2569, 2571, 2570, 1551, 1552, 2572] (by decide +kernel)
set_option maxRecDepth 100000 in
theorem plit_21_tbl : ∀ w ∈ plit_21, w ∈ lw_tbl := p_places _ [2573, 2575, 2574, 1561, 1562, 2580, 2581, 2583, 2582, 1569, 1570, 2584, 2585, 2587, 2586, 1124, 1125, 1127, 1126, 2613, 2614, 2616, 2615, 1128] (by decide +kernel)
set_option maxRecDepth 100000 in
theorem plit_22_tbl : ∀ w ∈ plit_22, w ∈ lw_tbl := p_places _ [1129, 1131, 1130, 2617, 2618, 2620, 2619, 1132, 1133, 1135, 1134, 2621, 2622, 2624, 2623, 1601, 1602, 2625, 2626, 2628, 2627, 1625, 1626, 2629] (by decide +kernel)
set_option maxRecDepth 100000 in
theorem plit_23_tbl : ∀ w ∈ plit_23, w ∈ lw_tbl := p_places _ [2630, 2632, 2631, 1136, 1137, 1139, 1138, 2633, 2634, 2636, 2635, 1649, 1646, 1647, 183, 1648, 1656, 1643, 1644, 184, 1645, 1650, 1652, 1655] (by decide +kernel)
set_option maxRecDepth 100000 in
theorem plit_24_tbl : ∀ w ∈ plit_24, w ∈ lw_tbl := p_places _ [1659, 1803, 1805, 1806, 116, 1807, 1809, 1810, 117, 1811, 1813, 1814, 118, 1867, 697, 698, 700, 699, 701, 702, 704, 703, 2196, 707] (by decide +kernel)
set_option maxRecDepth 100000 in
theorem plit_25_tbl : ∀ w ∈ plit_25, w ∈ lw_tbl := p_places _ [708, 710, 709, 715, 716, 187, 717, 705, 2197, 711, 712, 714, 713, 718, 719, 720, 727, 728, 729, 1658] (by decide +kernel)
set_option maxRecDepth 100000 in
theorem puJx4a65c_tbl : ∀ w ∈ u_ws RJx4a65c TJx4a65c 3, w ∈ lw_tbl := p_places _ [1664, 1660, 1662] (by decide +kernel)
set_option maxRecDepth 100000 in
theorem puX0_tbl : ∀ w ∈ u_ws RX0 TX0 1, w ∈ lw_tbl := p_places _ [520] (by decide +kernel)
set_option maxRecDepth 100000 in
theorem puX1_tbl : ∀ w ∈ u_ws RX1 TX1 13, w ∈ lw_tbl := p_places _ [316, 318, 320, 322, 324, 326, 328, 330, 332, 334, 336, 338, 340] (by decide +kernel)
set_option maxRecDepth 100000 in
theorem puX2_tbl : ∀ w ∈ u_ws RX2 TX2 11, w ∈ lw_tbl := p_places _ [370, 372, 374, 376, 378, 380, 382, 384, 386, 388, 390] (by decide +kernel)
set_option maxRecDepth 100000 in
theorem puX3_tbl : ∀ w ∈ u_ws RX3 TX3 9, w ∈ lw_tbl := p_places _ [537, 539, 541, 543, 545, 547, 549, 551, 553] (by decide +kernel)
set_option maxRecDepth 100000 in
theorem puX4_tbl : ∀ w ∈ u_ws RX4 TX4 4, w ∈ lw_tbl := p_places _ [498, 500, 502, 504] (by decide +kernel)
set_option maxRecDepth 100000 in
theorem puX5_tbl : ∀ w ∈ u_ws RX5 TX5 4, w ∈ lw_tbl := p_places _ [405, 407, 409, 411] (by decide +kernel)
set_option maxRecDepth 100000 in
theorem puX6_tbl : ∀ w ∈ u_ws RX6 TX6 16, w ∈ lw_tbl := p_places _ [455, 457, 459, 461, 463, 465, 467, 469, 471, 473, 475, 477, 479, 481, 483, 485] (by decide +kernel)
set_option maxRecDepth 100000 in
theorem puX7_tbl : ∀ w ∈ u_ws RX7 TX7 2, w ∈ lw_tbl := p_places _ [264, 266] (by decide +kernel)
set_option maxRecDepth 100000 in
theorem puX8_tbl : ∀ w ∈ u_ws RX8 TX8 1, w ∈ lw_tbl := p_places _ [573] (by decide +kernel)
set_option maxRecDepth 100000 in
theorem puX9_tbl : ∀ w ∈ u_ws RX9 TX9 4, w ∈ lw_tbl := p_places _ [583, 585, 587, 589] (by decide +kernel)
set_option maxRecDepth 100000 in
theorem puX10_tbl : ∀ w ∈ u_ws RX10 TX10 4, w ∈ lw_tbl := p_places _ [243, 245, 247, 249] (by decide +kernel)
set_option maxRecDepth 100000 in
theorem puX11_tbl : ∀ w ∈ u_ws RX11 TX11 10, w ∈ lw_tbl := p_places _ [602, 604, 606, 608, 610, 612, 614, 616, 618, 620] (by decide +kernel)
set_option maxRecDepth 100000 in
theorem puX14_tbl : ∀ w ∈ u_ws RX14 TX14 2, w ∈ lw_tbl := p_places _ [1794, 1796] (by decide +kernel)
set_option maxRecDepth 100000 in
theorem puX17_tbl : ∀ w ∈ u_ws RX17 TX17 31, w ∈ lw_tbl := p_places _ [1698, 1700, 1702, 1704, 1706, 1708, 1710, 1712, 1714, 1716, 1718, 1720, 1722, 1724, 1726, 1728, 1730, 1732, 1734, 1736, 1738, 1740, 1742, 1744, 1746, 1748, 1750, 1752, 1754, 1756, 1758] (by decide +kernel)
theorem plit_tbl : ∀ w ∈ plit, w ∈ lw_tbl := List.forall_mem_append.mpr ⟨plit_0_tbl, List.forall_mem_append.mpr ⟨plit_1_tbl, List.forall_mem_append.mpr ⟨plit_2_tbl, List.forall_mem_append.mpr ⟨plit_3_tbl, List.forall_mem_append.mpr ⟨plit_4_tbl, List.forall_mem_append.mpr ⟨plit_5_tbl, List.forall_mem_append.mpr ⟨plit_6_tbl, List.forall_mem_append.mpr ⟨plit_7_tbl, List.forall_mem_append.mpr ⟨plit_8_tbl, List.forall_mem_append.mpr ⟨plit_9_tbl, List.forall_mem_append.mpr ⟨plit_10_tbl, List.forall_mem_append.mpr ⟨plit_11_tbl, List.forall_mem_append.mpr ⟨plit_12_tbl, List.forall_mem_append.mpr ⟨plit_13_tbl, List.forall_mem_append.mpr ⟨plit_14_tbl, List.forall_mem_append.mpr ⟨plit_15_tbl, List.forall_mem_append.mpr ⟨plit_16_tbl, List.forall_mem_append.mpr ⟨plit_17_tbl, List.forall_mem_append.mpr ⟨plit_18_tbl, List.forall_mem_append.mpr ⟨plit_19_tbl, List.forall_mem_append.mpr ⟨plit_20_tbl, List.forall_mem_append.mpr ⟨plit_21_tbl, List.forall_mem_append.mpr ⟨plit_22_tbl, List.forall_mem_append.mpr ⟨plit_23_tbl, List.forall_mem_append.mpr ⟨plit_24_tbl, plit_25_tbl⟩⟩⟩⟩⟩⟩⟩⟩⟩⟩⟩⟩⟩⟩⟩⟩⟩⟩⟩⟩⟩⟩⟩⟩⟩
theorem pw_tbl : ∀ w ∈ pw, w ∈ lw_tbl := List.forall_mem_append.mpr ⟨plit_tbl, List.forall_mem_append.mpr ⟨puJx4a65c_tbl, List.forall_mem_append.mpr ⟨puX0_tbl, List.forall_mem_append.mpr ⟨puX1_tbl, List.forall_mem_append.mpr ⟨puX2_tbl, List.forall_mem_append.mpr ⟨puX3_tbl, List.forall_mem_append.mpr ⟨puX4_tbl, List.forall_mem_append.mpr ⟨puX5_tbl, List.forall_mem_append.mpr ⟨puX6_tbl, List.forall_mem_append.mpr ⟨puX7_tbl, List.forall_mem_append.mpr ⟨puX8_tbl, List.forall_mem_append.mpr ⟨puX9_tbl, List.forall_mem_append.mpr ⟨puX10_tbl, List.forall_mem_append.mpr ⟨puX11_tbl, List.forall_mem_append.mpr ⟨puX14_tbl, puX17_tbl⟩⟩⟩⟩⟩⟩⟩⟩⟩⟩⟩⟩⟩⟩⟩
set_option maxRecDepth 100000 in
theorem pw_good : ∀ w ∈ pw, goodWord w = true := by decide +kernel
theorem plit_0_in {w : Cond} (h : w ∈ plit_0) : w ∈ pw := List.mem_append_left _ (List.mem_append_left _ h)
theorem plit_1_in {w : Cond} (h : w ∈ plit_1) : w ∈ pw := List.mem_append_left _ (List.mem_append_right _ (List.mem_append_left _ h))
theorem plit_2_in {w : Cond} (h : w ∈ plit_2) : w ∈ pw := List.mem_append_left _ (List.mem_append_right _ (List.mem_append_right _ (List.mem_append_left _ h)))
theorem plit_3_in {w : Cond} (h : w ∈ plit_3) : w ∈ pw := List.mem_append_left _ (List.mem_append_right _ (List.mem_append_right _ (List.mem_append_right _ (List.mem_append_left _ h))))
theorem plit_4_in {w : Cond} (h : w ∈ plit_4) : w ∈ pw := List.mem_append_left _ (List.mem_append_right _ (List.mem_append_right _ (List.mem_append_right _ (List.mem_append_right _ (List.mem_append_left _ h)))))
theorem plit_5_in {w : Cond} (h : w ∈ plit_5) : w ∈ pw := List.mem_append_left _ (List.mem_append_right _ (List.mem_append_right _ (List.mem_append_right _ (List.mem_append_right _ (List.mem_append_right _ (List.mem_append_left _ h))))))
theorem plit_6_in {w : Cond} (h : w ∈ plit_6) : w ∈ pw := List.mem_append_left _ (List.mem_append_right _ (List.mem_append_right _ (List.mem_append_right _ (List.mem_append_right _ (List.mem_append_right _ (List.mem_append_right _ (List.mem_append_left _ h)))))))
theorem plit_7_in {w : Cond} (h : w ∈ plit_7) : w ∈ pw := List.mem_append_left _ (List.mem_append_right _ (List.mem_append_right _ (List.mem_append_right _ (List.mem_append_right _ (List.mem_append_right _ (List.mem_append_right _ (List.mem_append_right _ (List.mem_append_left _ h))))))))
theorem plit_8_in {w : Cond} (h : w ∈ plit_8) : w ∈ pw := List.mem_append_left _ (List.mem_append_right _ (List.mem_append_right _ (List.mem_append_right _ (List.mem_append_right _ (List.mem_append_right _ (List.mem_append_right _ (List.mem_append_right _ (List.mem_append_right _ (List.mem_append_left _ h)))))))))
theorem plit_9_in {w : Cond} (h : w ∈ plit_9) : w ∈ pw := List.mem_append_left _ (List.mem_append_right _ (List.mem_append_right _ (List.mem_append_right _ (List.mem_append_right _ (List.mem_append_right _ (List.mem_append_right _ (List.mem_append_right _ (List.mem_append_right _ (List.mem_append_right _ (List.mem_append_left _ h))))))))))
theorem plit_10_in {w : Cond} (h : w ∈ plit_10) : w ∈ pw := List.mem_append_left _ (List.mem_append_right _ (List.mem_append_right _ (List.mem_append_right _ (List.mem_append_right _ (List.mem_append_right _ (List.mem_append_right _ (List.mem_append_right _ (List.mem_append_right _ (List.mem_append_right _ (List.mem_append_right _ (List.mem_append_left _ h)))))))))))
theorem plit_11_in {w : Cond} (h : w ∈ plit_11) : w ∈ pw := List.mem_append_left _ (List.mem_append_right _ (List.mem_append_right _ (List.mem_append_right _ (List.mem_append_right _ (List.mem_append_right _ (List.mem_append_right _ (List.mem_append_right _ (List.mem_append_right _ (List.mem_append_right _ (List.mem_append_right _ (List.mem_append_right _ (List.mem_append_left _ h))))))))))))
theorem plit_12_in {w : Cond} (h : w ∈ plit_12) : w ∈ pw := List.mem_append_left _ (List.mem_append_right _ (List.mem_append_right _ (List.mem_append_right _ (List.mem_append_right _ (List.mem_append_right _ (List.mem_append_right _ (List.mem_append_right _ (List.mem_append_right _ (List.mem_append_right _ (List.mem_append_right _ (List.mem_append_right _ (List.mem_append_right _ (List.mem_append_left _ h)))))))))))))
theorem plit_13_in {w : Cond} (h : w ∈ plit_13) : w ∈ pw := List.mem_append_left _ (List.mem_append_right _ (List.mem_append_right _ (List.mem_append_right _ (List.mem_append_right _ (List.mem_append_right _ (List.mem_append_right _ (List.mem_append_right _ (List.mem_append_right _ (List.mem_append_right _ (List.mem_append_right _ (List.mem_append_right _ (List.mem_append_right _ (List.mem_append_right _ (List.mem_append_left _ h))))))))))))))
theorem plit_14_in {w : Cond} (h : w ∈ plit_14) : w ∈ pw := List.mem_append_left _ (List.mem_append_right _ (List.mem_append_right _ (List.mem_append_right _ (List.mem_append_right _ (List.mem_append_right _ (List.mem_append_right _ (List.mem_append_right _ (List.mem_append_right _ (List.mem_append_right _ (List.mem_append_right _ (List.mem_append_right _ (List.mem_append_right _ (List.mem_append_right _ (List.mem_append_right _ (List.mem_append_left _ h)))))))))))))))
theorem plit_15_in {w : Cond} (h : w ∈ plit_15) : w ∈ pw := List.mem_append_left _ (List.mem_append_right _ (List.mem_append_right _ (List.mem_append_right _ (List.mem_append_right _ (List.mem_append_right _ (List.mem_append_right _ (List.mem_append_right _ (List.mem_append_right _ (List.mem_append_right _ (List.mem_append_right _ (List.mem_append_right _ (List.mem_append_right _ (List.mem_append_right _ (List.mem_append_right _ (List.mem_append_right _ (List.mem_append_left _ h))))))))))))))))
theorem plit_16_in {w : Cond} (h : w ∈ plit_16) : w ∈ pw := List.mem_append_left _ (List.mem_append_right _ (List.mem_append_right _ (List.mem_append_right _ (List.mem_append_right _ (List.mem_append_right _ (List.mem_append_right _ (List.mem_append_right _ (List.mem_append_right _ (List.mem_append_right _ (List.mem_append_right _ (List.mem_append_right _ (List.mem_append_right _ (List.mem_append_right _ (List.mem_append_right _ (List.mem_append_right _ (List.mem_append_right _ (List.mem_append_left _ h)))))))))))))))))
theorem plit_17_in {w : Cond} (h : w ∈ plit_17) : w ∈ pw := List.mem_append_left _ (List.mem_append_right _ (List.mem_append_right _ (List.mem_append_right _ (List.mem_append_right _ (List.mem_append_right _ (List.mem_append_right _ (List.mem_append_right _ (List.mem_append_right _ (List.mem_append_right _ (List.mem_append_right _ (List.mem_append_right _ (List.mem_append_right _ (List.mem_append_right _ (List.mem_append_right _ (List.mem_append_right _ (List.mem_append_right _ (List.mem_append_right _ (List.mem_append_left _ h))))))))))))))))))
theorem plit_18_in {w : Cond} (h : w ∈ plit_18) : w ∈ pw := List.mem_append_left _ (List.mem_append_right _ (List.mem_append_right _ (List.mem_append_right _ (List.mem_append_right _ (List.mem_append_right _ (List.mem_append_right _ (List.mem_append_right _ (List.mem_append_right _ (List.mem_append_right _ (List.mem_append_right _ (List.mem_append_right _ (List.mem_append_right _ (List.mem_append_right _ (List.mem_append_right _ (List.mem_append_right _ (List.mem_append_right _ (List.mem_append_right _ (List.mem_append_right _ (List.mem_append_left _ h)))))))))))))))))))
theorem plit_19_in {w : Cond} (h : w ∈ plit_19) : w ∈ pw := List.mem_append_left _ (List.mem_append_right _ (List.mem_append_right _ (List.mem_append_right _ (List.mem_append_right _ (List.mem_append_right _ (List.mem_append_right _ (List.mem_append_right _ (List.mem_append_right _ (List.mem_append_right _ (List.mem_append_right _ (List.mem_append_right _ (List.mem_append_right _ (List.mem_append_right _ (List.mem_append_right _ (List.mem_append_right _ (List.mem_append_right _ (List.mem_append_right _ (List.mem_append_right _ (List.mem_append_right _ (List.mem_append_left _ h))))))))))))))))))))
theorem plit_20_in {w : Cond} (h : w ∈ plit_20) : w ∈ pw := List.mem_append_left _ (List.mem_append_right _ (List.mem_append_right _ (List.mem_append_right _ (List.mem_append_right _ (List.mem_append_right _ (List.mem_append_right _ (List.mem_append_right _ (List.mem_append_right _ (List.mem_append_right _ (List.mem_append_right _ (List.mem_append_right _ (List.mem_append_right _ (List.mem_append_right _ (List.mem_append_right _ (List.mem_append_right _ (List.mem_append_right _ (List.mem_append_right _ (List.mem_append_right _ (List.mem_append_right _ (List.mem_append_right _ (List.mem_append_left _ h)))))))))))))))))))))
theorem plit_21_in {w : Cond} (h : w ∈ plit_21) : w ∈ pw := List.mem_append_left _ (List.mem_append_right _ (List.mem_append_right _ (List.mem_append_right _ (List.mem_append_right _ (List.mem_append_right _ (List.mem_append_right _ (List.mem_append_right _ (List.mem_append_right _ (List.mem_append_right _ (List.mem_append_right _ (List.mem_append_right _ (List.mem_append_right _ (List.mem_append_right _ (List.mem_append_right _ (List.mem_append_right _ (List.mem_append_right _ (List.mem_append_right _ (List.mem_append_right _ (List.mem_append_right _ (List.mem_append_right _ (List.mem_append_right _ (List.mem_append_left _ h))))))))))))))))))))))
theorem plit_22_in {w : Cond} (h : w ∈ plit_22) : w ∈ pw := List.mem_append_left _ (List.mem_append_right _ (List.mem_append_right _ (List.mem_append_right _ (List.mem_append_right _ (List.mem_append_right _ (List.mem_append_right _ (List.mem_append_right _ (List.mem_append_right _ (List.mem_append_right _ (List.mem_append_right _ (List.mem_append_right _ (List.mem_append_right _ (List.mem_append_right _ (List.mem_append_right _ (List.mem_append_right _ (List.mem_append_right _ (List.mem_append_right _ (List.mem_append_right _ (List.mem_append_right _ (List.mem_append_right _ (List.mem_append_right _ (List.mem_append_right _ (List.mem_append_left _ h)))))))))))))))))))))))
theorem plit_23_in {w : Cond} (h : w ∈ plit_23) : w ∈ pw := List.mem_append_left _ (List.mem_append_right _ (List.mem_append_right _ (List.mem_append_right _ (List.mem_append_right _ (List.mem_append_right _ (List.mem_append_right _ (List.mem_append_right _ (List.mem_append_right _ (List.mem_append_right _ (List.mem_append_right _ (List.mem_append_right _ (List.mem_append_right _ (List.mem_append_right _ (List.mem_append_right _ (List.mem_append_right _ (List.mem_append_right _ (List.mem_append_right _ (List.mem_append_right _ (List.mem_append_right _ (List.mem_append_right _ (List.mem_append_right _ (List.mem_append_right _ (List.mem_append_right _ (List.mem_append_left _ h))))))))))))))))))))))))
theorem plit_24_in {w : Cond} (h : w ∈ plit_24) : w ∈ pw := List.mem_append_left _ (List.mem_append_right _ (List.mem_append_right _ (List.mem_append_right _ (List.mem_append_right _ (List.mem_append_right _ (List.mem_append_right _ (List.mem_append_right _ (List.mem_append_right _ (List.mem_append_right _ (List.mem_append_right _ (List.mem_append_right _ (List.mem_append_right _ (List.mem_append_right _ (List.mem_append_right _ (List.mem_append_right _ (List.mem_append_right _ (List.mem_append_right _ (List.mem_append_right _ (List.mem_append_right _ (List.mem_append_right _ (List.mem_append_right _ (List.mem_append_right _ (List.mem_append_right _ (List.mem_append_right _ (List.mem_append_left _ h)))))))))))))))))))))))))
theorem plit_25_in {w : Cond} (h : w ∈ plit_25) : w ∈ pw := List.mem_append_left _ (List.mem_append_right _ (List.mem_append_right _ (List.mem_append_right _ (List.mem_append_right _ (List.mem_append_right _ (List.mem_append_right _ (List.mem_append_right _ (List.mem_append_right _ (List.mem_append_right _ (List.mem_append_right _ (List.mem_append_right _ (List.mem_append_right _ (List.mem_append_right _ (List.mem_append_right _ (List.mem_append_right _ (List.mem_append_right _ (List.mem_append_right _ (List.mem_append_right _ (List.mem_append_right _ (List.mem_append_right _ (List.mem_append_right _ (List.mem_append_right _ (List.mem_append_right _ (List.mem_append_right _ (List.mem_append_right _ (h))))))))))))))))))))))))))
theorem e0 : Cond.methodLink RX0 1 objectInit ∈ pw := plit_0_in (List.mem_of_getElem? (i := 0) rfl)
theorem e1 : Cond.instanceMethod objectInit ∈ pw := plit_0_in (List.mem_of_getElem? (i := 1) rfl)
theorem e2 : Cond.code objectInit ⟨#[0xb1]⟩ 1 none ∈ pw := plit_0_in (List.mem_of_getElem? (i := 2) rfl)
theorem e3 : Cond.arrayClass .int ∈ pw := plit_0_in (List.mem_of_getElem? (i := 3) rfl)
theorem e4 : Cond.fieldLink RX0 11 "WordFoundry$Counts" "limbs" "[I" ∈ pw := plit_0_in (List.mem_of_getElem? (i := 4) rfl)
theorem e5 : Cond.methodLink RX1 3 objectInit ∈ pw := plit_0_in (List.mem_of_getElem? (i := 5) rfl)
theorem e6 : Cond.fieldLink RX1 9 "WordFoundry$Dictionary" "names" "[I" ∈ pw := plit_0_in (List.mem_of_getElem? (i := 6) rfl)
theorem e7 : Cond.fieldLink RX1 15 "WordFoundry$Dictionary" "vocabularies" "[I" ∈ pw := plit_0_in (List.mem_of_getElem? (i := 7) rfl)
theorem e8 : Cond.fieldLink RX1 18 "WordFoundry$Dictionary" "kinds" "[I" ∈ pw := plit_0_in (List.mem_of_getElem? (i := 8) rfl)
theorem e9 : Cond.arrayClass .boolean ∈ pw := plit_0_in (List.mem_of_getElem? (i := 9) rfl)
theorem e10 : Cond.fieldLink RX1 21 "WordFoundry$Dictionary" "immediates" "[Z" ∈ pw := plit_0_in (List.mem_of_getElem? (i := 10) rfl)
theorem e11 : Cond.fieldLink RX1 25 "WordFoundry$Dictionary" "values" "[I" ∈ pw := plit_0_in (List.mem_of_getElem? (i := 11) rfl)
theorem e12 : Cond.fieldLink RX1 28 "WordFoundry$Dictionary" "doingEntries" "[I" ∈ pw := plit_0_in (List.mem_of_getElem? (i := 12) rfl)
theorem e13 : Cond.fieldLink RX1 31 "WordFoundry$Dictionary" "doingStarts" "[I" ∈ pw := plit_0_in (List.mem_of_getElem? (i := 13) rfl)
theorem e14 : Cond.fieldLink RX1 34 "WordFoundry$Dictionary" "opCounts" "[I" ∈ pw := plit_0_in (List.mem_of_getElem? (i := 14) rfl)
theorem e15 : Cond.fieldLink RX1 37 "WordFoundry$Dictionary" "opKinds" "[I" ∈ pw := plit_0_in (List.mem_of_getElem? (i := 15) rfl)
theorem e16 : Cond.fieldLink RX1 40 "WordFoundry$Dictionary" "opNumbers" "[I" ∈ pw := plit_0_in (List.mem_of_getElem? (i := 16) rfl)
theorem e17 : Cond.fieldLink RX1 43 "WordFoundry$Dictionary" "size" "I" ∈ pw := plit_0_in (List.mem_of_getElem? (i := 17) rfl)
theorem e18 : Cond.methodLink RX1 47 yX1_has ∈ pw := plit_0_in (List.mem_of_getElem? (i := 18) rfl)
theorem e19 : Cond.instanceMethod yX1_has ∈ pw := plit_0_in (List.mem_of_getElem? (i := 19) rfl)
theorem e20 : Cond.initialized RX1 ∈ pw := plit_0_in (List.mem_of_getElem? (i := 20) rfl)
theorem e21 : Cond.code yX1_has cX1_has 2 (some .boolean) ∈ pw := plit_0_in (List.mem_of_getElem? (i := 21) rfl)
theorem e22 : Cond.selects RX1 yX1_has yX1_has ∈ pw := plit_0_in (List.mem_of_getElem? (i := 22) rfl)
theorem e23 : Cond.fieldLink RX1 68 "WordFoundry$Dictionary" "searchedVocabulary" "I" ∈ pw := plit_0_in (List.mem_of_getElem? (i := 23) rfl)
theorem e24 : Cond.methodLink RX2 3 objectInit ∈ pw := plit_1_in (List.mem_of_getElem? (i := 0) rfl)
theorem e25 : Cond.fieldLink RX2 9 "WordFoundry$Draft" "opKinds" "[I" ∈ pw := plit_1_in (List.mem_of_getElem? (i := 1) rfl)
theorem e26 : Cond.fieldLink RX2 15 "WordFoundry$Draft" "opNumbers" "[I" ∈ pw := plit_1_in (List.mem_of_getElem? (i := 2) rfl)
theorem e27 : Cond.fieldLink RX2 18 "WordFoundry$Draft" "owners" "[I" ∈ pw := plit_1_in (List.mem_of_getElem? (i := 3) rfl)
theorem e28 : Cond.fieldLink RX2 21 "WordFoundry$Draft" "markKinds" "[I" ∈ pw := plit_1_in (List.mem_of_getElem? (i := 4) rfl)
theorem e29 : Cond.fieldLink RX2 24 "WordFoundry$Draft" "markPlaces" "[I" ∈ pw := plit_1_in (List.mem_of_getElem? (i := 5) rfl)
theorem e30 : Cond.fieldLink RX2 27 "WordFoundry$Draft" "markCounts" "[I" ∈ pw := plit_1_in (List.mem_of_getElem? (i := 6) rfl)
theorem e31 : Cond.methodLink RX3 5 objectInit ∈ pw := plit_1_in (List.mem_of_getElem? (i := 7) rfl)
theorem e32 : Cond.fieldLink RX3 11 "WordFoundry$Effects" "known" "[Z" ∈ pw := plit_1_in (List.mem_of_getElem? (i := 8) rfl)
theorem e33 : Cond.classLink RX3 15 RX0 ∈ pw := plit_1_in (List.mem_of_getElem? (i := 9) rfl)
theorem e34 : Cond.instantiable RX0 1 ∈ pw := plit_1_in (List.mem_of_getElem? (i := 10) rfl)
theorem e35 : Cond.initialized RX0 ∈ pw := plit_1_in (List.mem_of_getElem? (i := 11) rfl)
theorem e36 : Cond.instanceMethod yX0_init ∈ pw := plit_1_in (List.mem_of_getElem? (i := 12) rfl)
theorem e37 : Cond.code yX0_init cX0_init 1 none ∈ pw := plit_1_in (List.mem_of_getElem? (i := 13) rfl)
theorem e38 : Cond.fieldLink RX3 18 "WordFoundry$Effects" "counts" "LWordFoundry$Counts;" ∈ pw := plit_1_in (List.mem_of_getElem? (i := 14) rfl)
theorem e39 : Cond.fieldLink RX3 22 "WordFoundry$Effects" "reached" "[Z" ∈ pw := plit_1_in (List.mem_of_getElem? (i := 15) rfl)
theorem e40 : Cond.fieldLink RX3 25 "WordFoundry$Effects" "ahead" "[I" ∈ pw := plit_1_in (List.mem_of_getElem? (i := 16) rfl)
theorem e41 : Cond.fieldLink RX3 29 "WordFoundry$Effects" "dictionary" "LWordFoundry$Dictionary;" ∈ pw := plit_1_in (List.mem_of_getElem? (i := 17) rfl)
theorem e42 : Cond.instanceMethod yX0_set ∈ pw := plit_1_in (List.mem_of_getElem? (i := 18) rfl)
theorem e43 : Cond.code yX0_set cX0_set 4 none ∈ pw := plit_1_in (List.mem_of_getElem? (i := 19) rfl)
theorem e44 : Cond.selects RX0 yX0_set yX0_set ∈ pw := plit_1_in (List.mem_of_getElem? (i := 20) rfl)
theorem e45 : Cond.methodLink RX4 3 objectInit ∈ pw := plit_1_in (List.mem_of_getElem? (i := 21) rfl)
theorem e46 : Cond.fieldLink RX4 9 "WordFoundry$FrameRunner" "codes" "[I" ∈ pw := plit_1_in (List.mem_of_getElem? (i := 22) rfl)
theorem e47 : Cond.fieldLink RX4 15 "WordFoundry$FrameRunner" "places" "[I" ∈ pw := plit_1_in (List.mem_of_getElem? (i := 23) rfl)
theorem e48 : Cond.fieldLink RX4 18 "WordFoundry$FrameRunner" "waiting" "[Z" ∈ pw := plit_2_in (List.mem_of_getElem? (i := 0) rfl)
theorem e49 : Cond.fieldLink RX4 22 "WordFoundry$FrameRunner" "machine" "LWordFoundry$Machine;" ∈ pw := plit_2_in (List.mem_of_getElem? (i := 1) rfl)
theorem e50 : Cond.methodLink RX5 3 objectInit ∈ pw := plit_2_in (List.mem_of_getElem? (i := 2) rfl)
theorem e51 : Cond.fieldLink RX5 9 "WordFoundry$Line" "sorts" "[I" ∈ pw := plit_2_in (List.mem_of_getElem? (i := 3) rfl)
theorem e52 : Cond.fieldLink RX5 15 "WordFoundry$Line" "values" "[I" ∈ pw := plit_2_in (List.mem_of_getElem? (i := 4) rfl)
theorem e53 : Cond.fieldLink RX5 18 "WordFoundry$Line" "length" "I" ∈ pw := plit_2_in (List.mem_of_getElem? (i := 5) rfl)
theorem e54 : Cond.fieldLink RX5 22 "WordFoundry$Line" "place" "I" ∈ pw := plit_2_in (List.mem_of_getElem? (i := 6) rfl)
theorem e55 : Cond.methodLink RX6 3 objectInit ∈ pw := plit_2_in (List.mem_of_getElem? (i := 7) rfl)
theorem e56 : Cond.classLink RX6 9 RX10 ∈ pw := plit_2_in (List.mem_of_getElem? (i := 8) rfl)
theorem e57 : Cond.instantiable RX10 4 ∈ pw := plit_2_in (List.mem_of_getElem? (i := 9) rfl)
theorem e58 : Cond.initialized RX10 ∈ pw := plit_2_in (List.mem_of_getElem? (i := 10) rfl)
theorem e59 : Cond.instanceMethod yX10_init ∈ pw := plit_2_in (List.mem_of_getElem? (i := 11) rfl)
theorem e60 : Cond.code yX10_init cX10_init 1 none ∈ pw := plit_2_in (List.mem_of_getElem? (i := 12) rfl)
theorem e61 : Cond.fieldLink RX6 12 "WordFoundry$Machine" "first" "LWordFoundry$Stack;" ∈ pw := plit_2_in (List.mem_of_getElem? (i := 13) rfl)
theorem e62 : Cond.fieldLink RX6 18 "WordFoundry$Machine" "second" "LWordFoundry$Stack;" ∈ pw := plit_2_in (List.mem_of_getElem? (i := 14) rfl)
theorem e63 : Cond.fieldLink RX6 21 "WordFoundry$Machine" "cells" "[I" ∈ pw := plit_2_in (List.mem_of_getElem? (i := 15) rfl)
theorem e64 : Cond.classLink RX6 25 RX7 ∈ pw := plit_2_in (List.mem_of_getElem? (i := 16) rfl)
theorem e65 : Cond.instantiable RX7 2 ∈ pw := plit_2_in (List.mem_of_getElem? (i := 17) rfl)
theorem e66 : Cond.initialized RX7 ∈ pw := plit_2_in (List.mem_of_getElem? (i := 18) rfl)
theorem e67 : Cond.instanceMethod yX7_init ∈ pw := plit_2_in (List.mem_of_getElem? (i := 19) rfl)
theorem e68 : Cond.code yX7_init cX7_init 1 none ∈ pw := plit_2_in (List.mem_of_getElem? (i := 20) rfl)
theorem e69 : Cond.fieldLink RX6 28 "WordFoundry$Machine" "printed" "LWordFoundry$Printed;" ∈ pw := plit_2_in (List.mem_of_getElem? (i := 21) rfl)
theorem e70 : Cond.classLink RX6 32 RX1 ∈ pw := plit_2_in (List.mem_of_getElem? (i := 22) rfl)
theorem e71 : Cond.instantiable RX1 13 ∈ pw := plit_2_in (List.mem_of_getElem? (i := 23) rfl)
theorem e72 : Cond.instanceMethod yX1_init ∈ pw := plit_3_in (List.mem_of_getElem? (i := 0) rfl)
theorem e73 : Cond.code yX1_init cX1_init 1 none ∈ pw := plit_3_in (List.mem_of_getElem? (i := 1) rfl)
theorem e74 : Cond.fieldLink RX6 35 "WordFoundry$Machine" "dictionary" "LWordFoundry$Dictionary;" ∈ pw := plit_3_in (List.mem_of_getElem? (i := 2) rfl)
theorem e75 : Cond.classLink RX6 39 RX2 ∈ pw := plit_3_in (List.mem_of_getElem? (i := 3) rfl)
theorem e76 : Cond.instantiable RX2 11 ∈ pw := plit_3_in (List.mem_of_getElem? (i := 4) rfl)
theorem e77 : Cond.initialized RX2 ∈ pw := plit_3_in (List.mem_of_getElem? (i := 5) rfl)
theorem e78 : Cond.instanceMethod yX2_init ∈ pw := plit_3_in (List.mem_of_getElem? (i := 6) rfl)
theorem e79 : Cond.code yX2_init cX2_init 1 none ∈ pw := plit_3_in (List.mem_of_getElem? (i := 7) rfl)
theorem e80 : Cond.fieldLink RX6 42 "WordFoundry$Machine" "draft" "LWordFoundry$Draft;" ∈ pw := plit_3_in (List.mem_of_getElem? (i := 8) rfl)
theorem e81 : Cond.classLink RX6 46 RX5 ∈ pw := plit_3_in (List.mem_of_getElem? (i := 9) rfl)
theorem e82 : Cond.instantiable RX5 4 ∈ pw := plit_3_in (List.mem_of_getElem? (i := 10) rfl)
theorem e83 : Cond.initialized RX5 ∈ pw := plit_3_in (List.mem_of_getElem? (i := 11) rfl)
theorem e84 : Cond.instanceMethod yX5_init ∈ pw := plit_3_in (List.mem_of_getElem? (i := 12) rfl)
theorem e85 : Cond.code yX5_init cX5_init 1 none ∈ pw := plit_3_in (List.mem_of_getElem? (i := 13) rfl)
theorem e86 : Cond.fieldLink RX6 49 "WordFoundry$Machine" "line" "LWordFoundry$Line;" ∈ pw := plit_3_in (List.mem_of_getElem? (i := 14) rfl)
theorem e87 : Cond.fieldLink RX6 53 "WordFoundry$Machine" "running" "[I" ∈ pw := plit_3_in (List.mem_of_getElem? (i := 15) rfl)
theorem e88 : Cond.fieldLink RX6 56 "WordFoundry$Machine" "bases" "[I" ∈ pw := plit_3_in (List.mem_of_getElem? (i := 16) rfl)
theorem e89 : Cond.fieldLink RX6 59 "WordFoundry$Machine" "mostSteps" "I" ∈ pw := plit_3_in (List.mem_of_getElem? (i := 17) rfl)
theorem e90 : Cond.methodLink RX7 3 objectInit ∈ pw := plit_3_in (List.mem_of_getElem? (i := 18) rfl)
theorem e91 : Cond.fieldLink RX7 9 "WordFoundry$Printed" "numbers" "[I" ∈ pw := plit_3_in (List.mem_of_getElem? (i := 19) rfl)
theorem e92 : Cond.methodLink RX8 3 objectInit ∈ pw := plit_3_in (List.mem_of_getElem? (i := 20) rfl)
theorem e93 : Cond.fieldLink RX8 9 "WordFoundry$RecursiveRunner" "machine" "LWordFoundry$Machine;" ∈ pw := plit_3_in (List.mem_of_getElem? (i := 21) rfl)
theorem e94 : Cond.methodLink RX9 3 objectInit ∈ pw := plit_3_in (List.mem_of_getElem? (i := 22) rfl)
theorem e95 : Cond.classLink RX9 9 RX6 ∈ pw := plit_3_in (List.mem_of_getElem? (i := 23) rfl)
theorem e96 : Cond.instantiable RX6 16 ∈ pw := plit_4_in (List.mem_of_getElem? (i := 0) rfl)
theorem e97 : Cond.initialized RX6 ∈ pw := plit_4_in (List.mem_of_getElem? (i := 1) rfl)
theorem e98 : Cond.instanceMethod yX6_init ∈ pw := plit_4_in (List.mem_of_getElem? (i := 2) rfl)
theorem e99 : Cond.code yX6_init cX6_init 2 none ∈ pw := plit_4_in (List.mem_of_getElem? (i := 3) rfl)
theorem e100 : Cond.fieldLink RX9 14 "WordFoundry$SoundCheck" "framed" "LWordFoundry$Machine;" ∈ pw := plit_4_in (List.mem_of_getElem? (i := 4) rfl)
theorem e101 : Cond.classLink RX9 20 RX4 ∈ pw := plit_4_in (List.mem_of_getElem? (i := 5) rfl)
theorem e102 : Cond.instantiable RX4 4 ∈ pw := plit_4_in (List.mem_of_getElem? (i := 6) rfl)
theorem e103 : Cond.initialized RX4 ∈ pw := plit_4_in (List.mem_of_getElem? (i := 7) rfl)
theorem e104 : Cond.instanceMethod yX4_init ∈ pw := plit_4_in (List.mem_of_getElem? (i := 8) rfl)
theorem e105 : Cond.code yX4_init cX4_init 2 none ∈ pw := plit_4_in (List.mem_of_getElem? (i := 9) rfl)
theorem e106 : Cond.fieldLink RX9 25 "WordFoundry$SoundCheck" "frames" "LWordFoundry$FrameRunner;" ∈ pw := plit_4_in (List.mem_of_getElem? (i := 10) rfl)
theorem e107 : Cond.fieldLink RX9 29 "WordFoundry$SoundCheck" "recursed" "LWordFoundry$Machine;" ∈ pw := plit_4_in (List.mem_of_getElem? (i := 11) rfl)
theorem e108 : Cond.classLink RX9 32 RX8 ∈ pw := plit_4_in (List.mem_of_getElem? (i := 12) rfl)
theorem e109 : Cond.instantiable RX8 1 ∈ pw := plit_4_in (List.mem_of_getElem? (i := 13) rfl)
theorem e110 : Cond.initialized RX8 ∈ pw := plit_4_in (List.mem_of_getElem? (i := 14) rfl)
theorem e111 : Cond.instanceMethod yX8_init ∈ pw := plit_4_in (List.mem_of_getElem? (i := 15) rfl)
theorem e112 : Cond.code yX8_init cX8_init 2 none ∈ pw := plit_4_in (List.mem_of_getElem? (i := 16) rfl)
theorem e113 : Cond.fieldLink RX9 35 "WordFoundry$SoundCheck" "recursion" "LWordFoundry$RecursiveRunner;" ∈ pw := plit_4_in (List.mem_of_getElem? (i := 17) rfl)
theorem e114 : Cond.methodLink RX10 3 objectInit ∈ pw := plit_4_in (List.mem_of_getElem? (i := 18) rfl)
theorem e115 : Cond.fieldLink RX10 9 "WordFoundry$Stack" "numbers" "[I" ∈ pw := plit_4_in (List.mem_of_getElem? (i := 19) rfl)
theorem e116 : Cond.fieldLink RX10 15 "WordFoundry$Stack" "kept" "[I" ∈ pw := plit_4_in (List.mem_of_getElem? (i := 20) rfl)
theorem e117 : Cond.fieldLink RX10 18 "WordFoundry$Stack" "keptSizes" "[I" ∈ pw := plit_4_in (List.mem_of_getElem? (i := 21) rfl)
theorem e118 : Cond.methodLink RX11 1 objectInit ∈ pw := plit_4_in (List.mem_of_getElem? (i := 22) rfl)
theorem e119 : Cond.classLink RX11 7 RX6 ∈ pw := plit_4_in (List.mem_of_getElem? (i := 23) rfl)
theorem e120 : Cond.fieldLink RX11 14 "WordFoundry" "machine" "LWordFoundry$Machine;" ∈ pw := plit_5_in (List.mem_of_getElem? (i := 0) rfl)
theorem e121 : Cond.classLink RX11 18 RX4 ∈ pw := plit_5_in (List.mem_of_getElem? (i := 1) rfl)
theorem e122 : Cond.fieldLink RX11 23 "WordFoundry" "runner" "LWordFoundry$FrameRunner;" ∈ pw := plit_5_in (List.mem_of_getElem? (i := 2) rfl)
theorem e123 : Cond.classLink RX11 27 RX3 ∈ pw := plit_5_in (List.mem_of_getElem? (i := 3) rfl)
theorem e124 : Cond.instantiable RX3 9 ∈ pw := plit_5_in (List.mem_of_getElem? (i := 4) rfl)
theorem e125 : Cond.initialized RX3 ∈ pw := plit_5_in (List.mem_of_getElem? (i := 5) rfl)
theorem e126 : Cond.instanceMethod yX3_init ∈ pw := plit_5_in (List.mem_of_getElem? (i := 6) rfl)
theorem e127 : Cond.code yX3_init cX3_init 3 none ∈ pw := plit_5_in (List.mem_of_getElem? (i := 7) rfl)
theorem e128 : Cond.fieldLink RX11 36 "WordFoundry" "effects" "LWordFoundry$Effects;" ∈ pw := plit_5_in (List.mem_of_getElem? (i := 8) rfl)
theorem e129 : Cond.classLink RX11 40 RX9 ∈ pw := plit_5_in (List.mem_of_getElem? (i := 9) rfl)
theorem e130 : Cond.instantiable RX9 4 ∈ pw := plit_5_in (List.mem_of_getElem? (i := 10) rfl)
theorem e131 : Cond.initialized RX9 ∈ pw := plit_5_in (List.mem_of_getElem? (i := 11) rfl)
theorem e132 : Cond.instanceMethod yX9_init ∈ pw := plit_5_in (List.mem_of_getElem? (i := 12) rfl)
theorem e133 : Cond.code yX9_init cX9_init 1 none ∈ pw := plit_5_in (List.mem_of_getElem? (i := 13) rfl)
theorem e134 : Cond.fieldLink RX11 43 "WordFoundry" "check" "LWordFoundry$SoundCheck;" ∈ pw := plit_5_in (List.mem_of_getElem? (i := 14) rfl)
theorem e135 : Cond.fieldLink RX11 47 "WordFoundry" "trail" "[I" ∈ pw := plit_5_in (List.mem_of_getElem? (i := 15) rfl)
theorem e136 : Cond.methodLink RX11 53 yJ0_indexOf_0f7a4 ∈ pw := plit_5_in (List.mem_of_getElem? (i := 16) rfl)
theorem e137 : Cond.instanceMethod yJ0_indexOf_0f7a4 ∈ pw := plit_5_in (List.mem_of_getElem? (i := 17) rfl)
theorem e138 : Cond.initialized RJ0 ∈ pw := plit_5_in (List.mem_of_getElem? (i := 18) rfl)
theorem e139 : Cond.code yJ0_indexOf_0f7a4 cJ0_indexOf_0f7a4 2 (some .int) ∈ pw := plit_5_in (List.mem_of_getElem? (i := 19) rfl)
theorem e140 : Cond.selects RJ0 yJ0_indexOf_0f7a4 yJ0_indexOf_0f7a4 ∈ pw := plit_5_in (List.mem_of_getElem? (i := 20) rfl)
theorem e141 : Cond.classLink RX11 61 "java/lang/IllegalArgumentException" ∈ pw := plit_5_in (List.mem_of_getElem? (i := 21) rfl)
theorem e142 : Cond.initialized "java/lang/IllegalArgumentException" ∈ pw := plit_5_in (List.mem_of_getElem? (i := 22) rfl)
theorem e143 : Cond.instanceMethod yX5_isFull ∈ pw := plit_5_in (List.mem_of_getElem? (i := 23) rfl)
theorem e144 : Cond.code yX5_isFull cX5_isFull 1 (some .boolean) ∈ pw := plit_6_in (List.mem_of_getElem? (i := 0) rfl)
theorem e145 : Cond.selects RX5 yX5_isFull yX5_isFull ∈ pw := plit_6_in (List.mem_of_getElem? (i := 1) rfl)
theorem e146 : Cond.classLink RX11 78 "java/lang/IllegalStateException" ∈ pw := plit_6_in (List.mem_of_getElem? (i := 2) rfl)
theorem e147 : Cond.initialized "java/lang/IllegalStateException" ∈ pw := plit_6_in (List.mem_of_getElem? (i := 3) rfl)
theorem e148 : Cond.instanceMethod yX5_add ∈ pw := plit_6_in (List.mem_of_getElem? (i := 4) rfl)
theorem e149 : Cond.code yX5_add cX5_add 3 (some .int) ∈ pw := plit_6_in (List.mem_of_getElem? (i := 5) rfl)
theorem e150 : Cond.selects RX5 yX5_add yX5_add ∈ pw := plit_6_in (List.mem_of_getElem? (i := 6) rfl)
theorem e151 : Cond.instanceMethod yX5_hasMore ∈ pw := plit_6_in (List.mem_of_getElem? (i := 7) rfl)
theorem e152 : Cond.code yX5_hasMore cX5_hasMore 1 (some .boolean) ∈ pw := plit_6_in (List.mem_of_getElem? (i := 8) rfl)
theorem e153 : Cond.selects RX5 yX5_hasMore yX5_hasMore ∈ pw := plit_6_in (List.mem_of_getElem? (i := 9) rfl)
theorem e154 : Cond.instanceMethod yX5_clear ∈ pw := plit_6_in (List.mem_of_getElem? (i := 10) rfl)
theorem e155 : Cond.code yX5_clear cX5_clear 1 none ∈ pw := plit_6_in (List.mem_of_getElem? (i := 11) rfl)
theorem e156 : Cond.selects RX5 yX5_clear yX5_clear ∈ pw := plit_6_in (List.mem_of_getElem? (i := 12) rfl)
theorem e157 : Cond.fieldLink RX11 106 "WordFoundry" "lineCount" "I" ∈ pw := plit_6_in (List.mem_of_getElem? (i := 13) rfl)
theorem e158 : Cond.fieldLink RX11 109 "WordFoundry" "stepTotal" "J" ∈ pw := plit_6_in (List.mem_of_getElem? (i := 14) rfl)
theorem e159 : Cond.fieldLink RX11 113 "WordFoundry" "failure" "I" ∈ pw := plit_6_in (List.mem_of_getElem? (i := 15) rfl)
theorem e160 : Cond.fieldLink RX11 116 "WordFoundry" "trailLength" "I" ∈ pw := plit_6_in (List.mem_of_getElem? (i := 16) rfl)
theorem e161 : Cond.fieldLink RX11 119 "WordFoundry" "failureCount" "I" ∈ pw := plit_6_in (List.mem_of_getElem? (i := 17) rfl)
theorem e162 : Cond.classLink RX11 144 "java/util/NoSuchElementException" ∈ pw := plit_6_in (List.mem_of_getElem? (i := 18) rfl)
theorem e163 : Cond.initialized "java/util/NoSuchElementException" ∈ pw := plit_6_in (List.mem_of_getElem? (i := 19) rfl)
theorem e164 : Cond.classLink RX11 149 "java/lang/IndexOutOfBoundsException" ∈ pw := plit_6_in (List.mem_of_getElem? (i := 20) rfl)
theorem e165 : Cond.initialized "java/lang/IndexOutOfBoundsException" ∈ pw := plit_6_in (List.mem_of_getElem? (i := 21) rfl)
theorem e166 : Cond.instanceMethod yX1_search ∈ pw := plit_6_in (List.mem_of_getElem? (i := 22) rfl)
theorem e167 : Cond.code yX1_search cX1_search 4 (some .int) ∈ pw := plit_6_in (List.mem_of_getElem? (i := 23) rfl)
theorem e168 : Cond.selects RX1 yX1_search yX1_search ∈ pw := plit_7_in (List.mem_of_getElem? (i := 0) rfl)
theorem e169 : Cond.instanceMethod yX1_hasOp ∈ pw := plit_7_in (List.mem_of_getElem? (i := 1) rfl)
theorem e170 : Cond.code yX1_hasOp cX1_hasOp 3 (some .boolean) ∈ pw := plit_7_in (List.mem_of_getElem? (i := 2) rfl)
theorem e171 : Cond.selects RX1 yX1_hasOp yX1_hasOp ∈ pw := plit_7_in (List.mem_of_getElem? (i := 3) rfl)
theorem e172 : Cond.instanceMethod yX3_measureThrough ∈ pw := plit_7_in (List.mem_of_getElem? (i := 4) rfl)
theorem e173 : Cond.code yX3_measureThrough cX3_measureThrough 3 none ∈ pw := plit_7_in (List.mem_of_getElem? (i := 5) rfl)
theorem e174 : Cond.selects RX3 yX3_measureThrough yX3_measureThrough ∈ pw := plit_7_in (List.mem_of_getElem? (i := 6) rfl)
theorem e175 : Cond.classLink RX11 242 "java/lang/UnsupportedOperationException" ∈ pw := plit_7_in (List.mem_of_getElem? (i := 7) rfl)
theorem e176 : Cond.initialized "java/lang/UnsupportedOperationException" ∈ pw := plit_7_in (List.mem_of_getElem? (i := 8) rfl)
theorem e177 : Cond.classLink RX11 259 "java/lang/ArithmeticException" ∈ pw := plit_7_in (List.mem_of_getElem? (i := 9) rfl)
theorem e178 : Cond.initialized "java/lang/ArithmeticException" ∈ pw := plit_7_in (List.mem_of_getElem? (i := 10) rfl)
theorem e179 : Cond.methodLink RX14 1 objectInit ∈ pw := plit_7_in (List.mem_of_getElem? (i := 11) rfl)
theorem e180 : Cond.fieldLink RX14 7 "WordFoundryModel$Op" "kind" "C" ∈ pw := plit_7_in (List.mem_of_getElem? (i := 12) rfl)
theorem e181 : Cond.fieldLink RX14 13 "WordFoundryModel$Op" "number" "I" ∈ pw := plit_7_in (List.mem_of_getElem? (i := 13) rfl)
theorem e182 : Cond.methodLink RX17 1 objectInit ∈ pw := plit_7_in (List.mem_of_getElem? (i := 14) rfl)
theorem e183 : Cond.classLink RX17 7 RJx4a65c ∈ pw := plit_7_in (List.mem_of_getElem? (i := 15) rfl)
theorem e184 : Cond.instantiable RJx4a65c 3 ∈ pw := plit_7_in (List.mem_of_getElem? (i := 16) rfl)
theorem e185 : Cond.initialized RJx4a65c ∈ pw := plit_7_in (List.mem_of_getElem? (i := 17) rfl)
theorem e186 : Cond.methodLink RX17 9 yJx4a65c_init_da8c8 ∈ pw := plit_7_in (List.mem_of_getElem? (i := 18) rfl)
theorem e187 : Cond.instanceMethod yJx4a65c_init_da8c8 ∈ pw := plit_7_in (List.mem_of_getElem? (i := 19) rfl)
theorem e188 : Cond.code yJx4a65c_init_da8c8 cJx4a65c_init_da8c8 1 none ∈ pw := plit_7_in (List.mem_of_getElem? (i := 20) rfl)
theorem e189 : Cond.fieldLink RX17 10 "WordFoundryModel" "line" "Ljava/util/ArrayList;" ∈ pw := plit_7_in (List.mem_of_getElem? (i := 21) rfl)
theorem e190 : Cond.fieldLink RX17 16 "WordFoundryModel" "entries" "Ljava/util/ArrayList;" ∈ pw := plit_7_in (List.mem_of_getElem? (i := 22) rfl)
theorem e191 : Cond.fieldLink RX17 19 "WordFoundryModel" "stack" "Ljava/util/ArrayList;" ∈ pw := plit_7_in (List.mem_of_getElem? (i := 23) rfl)
theorem e192 : Cond.fieldLink RX17 22 "WordFoundryModel" "second" "Ljava/util/ArrayList;" ∈ pw := plit_8_in (List.mem_of_getElem? (i := 0) rfl)
theorem e193 : Cond.fieldLink RX17 25 "WordFoundryModel" "outs" "Ljava/util/ArrayList;" ∈ pw := plit_8_in (List.mem_of_getElem? (i := 1) rfl)
theorem e194 : Cond.fieldLink RX17 28 "WordFoundryModel" "running" "Ljava/util/ArrayList;" ∈ pw := plit_8_in (List.mem_of_getElem? (i := 2) rfl)
theorem e195 : Cond.fieldLink RX17 31 "WordFoundryModel" "parts" "Ljava/util/ArrayList;" ∈ pw := plit_8_in (List.mem_of_getElem? (i := 3) rfl)
theorem e196 : Cond.fieldLink RX17 34 "WordFoundryModel" "trace" "Ljava/util/ArrayList;" ∈ pw := plit_8_in (List.mem_of_getElem? (i := 4) rfl)
theorem e197 : Cond.fieldLink RX17 37 "WordFoundryModel" "marks" "Ljava/util/ArrayList;" ∈ pw := plit_8_in (List.mem_of_getElem? (i := 5) rfl)
theorem e198 : Cond.fieldLink RX17 40 "WordFoundryModel" "cells" "[I" ∈ pw := plit_8_in (List.mem_of_getElem? (i := 6) rfl)
theorem e199 : Cond.fieldLink RX17 44 "WordFoundryModel" "needs" "[I" ∈ pw := plit_8_in (List.mem_of_getElem? (i := 7) rfl)
theorem e200 : Cond.fieldLink RX17 47 "WordFoundryModel" "there" "[I" ∈ pw := plit_8_in (List.mem_of_getElem? (i := 8) rfl)
theorem e201 : Cond.fieldLink RX17 50 "WordFoundryModel" "heights" "[I" ∈ pw := plit_8_in (List.mem_of_getElem? (i := 9) rfl)
theorem e202 : Cond.fieldLink RX17 53 "WordFoundryModel" "hasEffect" "[Z" ∈ pw := plit_8_in (List.mem_of_getElem? (i := 10) rfl)
theorem e203 : Cond.fieldLink RX17 57 "WordFoundryModel" "isReached" "[Z" ∈ pw := plit_8_in (List.mem_of_getElem? (i := 11) rfl)
theorem e204 : Cond.fieldLink RX17 60 "WordFoundryModel" "thrown" "I" ∈ pw := plit_8_in (List.mem_of_getElem? (i := 12) rfl)
theorem e205 : Cond.methodLink RX17 67 yJx4a65c_size_8abf5 ∈ pw := plit_8_in (List.mem_of_getElem? (i := 13) rfl)
theorem e206 : Cond.instanceMethod yJx4a65c_size_8abf5 ∈ pw := plit_8_in (List.mem_of_getElem? (i := 14) rfl)
theorem e207 : Cond.code yJx4a65c_size_8abf5 cJx4a65c_size_8abf5 1 (some .int) ∈ pw := plit_8_in (List.mem_of_getElem? (i := 15) rfl)
theorem e208 : Cond.selects RJx4a65c yJx4a65c_size_8abf5 yJx4a65c_size_8abf5 ∈ pw := plit_8_in (List.mem_of_getElem? (i := 16) rfl)
theorem e209 : Cond.fieldLink RX17 130 "WordFoundryModel" "searched" "I" ∈ pw := plit_8_in (List.mem_of_getElem? (i := 17) rfl)
theorem e210 : Cond.methodLink RX17 133 yX17_foundIn ∈ pw := plit_8_in (List.mem_of_getElem? (i := 18) rfl)
theorem e211 : Cond.instanceMethod yX17_foundIn ∈ pw := plit_8_in (List.mem_of_getElem? (i := 19) rfl)
theorem e212 : Cond.initialized RX17 ∈ pw := plit_8_in (List.mem_of_getElem? (i := 20) rfl)
theorem e213 : Cond.code yX17_foundIn cX17_foundIn 4 (some .int) ∈ pw := plit_8_in (List.mem_of_getElem? (i := 21) rfl)
theorem e214 : Cond.selects RX17 yX17_foundIn yX17_foundIn ∈ pw := plit_8_in (List.mem_of_getElem? (i := 22) rfl)
theorem e215 : Cond.methodLink RX17 366 yX17_fails ∈ pw := plit_8_in (List.mem_of_getElem? (i := 23) rfl)
theorem e216 : Cond.instanceMethod yX17_fails ∈ pw := plit_9_in (List.mem_of_getElem? (i := 0) rfl)
theorem e217 : Cond.code yX17_fails cX17_fails 2 (some .int) ∈ pw := plit_9_in (List.mem_of_getElem? (i := 1) rfl)
theorem e218 : Cond.selects RX17 yX17_fails yX17_fails ∈ pw := plit_9_in (List.mem_of_getElem? (i := 2) rfl)
theorem e219 : Cond.classLink RX17 113 RX14 ∈ pw := plit_9_in (List.mem_of_getElem? (i := 3) rfl)
theorem e220 : Cond.instantiable RX14 2 ∈ pw := plit_9_in (List.mem_of_getElem? (i := 4) rfl)
theorem e221 : Cond.initialized RX14 ∈ pw := plit_9_in (List.mem_of_getElem? (i := 5) rfl)
theorem e222 : Cond.methodLink RX17 152 yX14_init ∈ pw := plit_9_in (List.mem_of_getElem? (i := 6) rfl)
theorem e223 : Cond.instanceMethod yX14_init ∈ pw := plit_9_in (List.mem_of_getElem? (i := 7) rfl)
theorem e224 : Cond.code yX14_init cX14_init 3 none ∈ pw := plit_9_in (List.mem_of_getElem? (i := 8) rfl)
theorem e225 : Cond.methodLink RX17 77 yJx4a65c_add_9ea2d ∈ pw := plit_9_in (List.mem_of_getElem? (i := 9) rfl)
theorem e226 : Cond.instanceMethod yJx4a65c_add_9ea2d ∈ pw := plit_9_in (List.mem_of_getElem? (i := 10) rfl)
theorem e227 : Cond.code yJx4a65c_add_9ea2d cJx4a65c_add_9ea2d 2 (some .boolean) ∈ pw := plit_9_in (List.mem_of_getElem? (i := 11) rfl)
theorem e228 : Cond.selects RJx4a65c yJx4a65c_add_9ea2d yJx4a65c_add_9ea2d ∈ pw := plit_9_in (List.mem_of_getElem? (i := 12) rfl)
theorem e229 : Cond.methodLink RX17 369 yX17_tell ∈ pw := plit_9_in (List.mem_of_getElem? (i := 13) rfl)
theorem e230 : Cond.instanceMethod yX17_tell ∈ pw := plit_9_in (List.mem_of_getElem? (i := 14) rfl)
theorem e231 : Cond.code yX17_tell cX17_tell 2 (some .int) ∈ pw := plit_9_in (List.mem_of_getElem? (i := 15) rfl)
theorem e232 : Cond.selects RX17 yX17_tell yX17_tell ∈ pw := plit_9_in (List.mem_of_getElem? (i := 16) rfl)
theorem e233 : Cond.methodLink RX17 234 yJ0_indexOf_0f7a4 ∈ pw := plit_9_in (List.mem_of_getElem? (i := 17) rfl)
theorem e234 : Cond.methodLink RX17 374 yX17_puts ∈ pw := plit_9_in (List.mem_of_getElem? (i := 18) rfl)
theorem e235 : Cond.instanceMethod yX17_puts ∈ pw := plit_9_in (List.mem_of_getElem? (i := 19) rfl)
theorem e236 : Cond.code yX17_puts cX17_puts 3 (some .int) ∈ pw := plit_9_in (List.mem_of_getElem? (i := 20) rfl)
theorem e237 : Cond.selects RX17 yX17_puts yX17_puts ∈ pw := plit_9_in (List.mem_of_getElem? (i := 21) rfl)
theorem e238 : Cond.methodLink RX17 278 yX17_in ∈ pw := plit_9_in (List.mem_of_getElem? (i := 22) rfl)
theorem e239 : Cond.static yX17_in ∈ pw := plit_9_in (List.mem_of_getElem? (i := 23) rfl)
theorem e240 : Cond.code yX17_in cX17_in 3 (some .boolean) ∈ pw := plit_10_in (List.mem_of_getElem? (i := 0) rfl)
theorem e241 : Cond.fieldLink RX17 386 "WordFoundryModel" "lines" "I" ∈ pw := plit_10_in (List.mem_of_getElem? (i := 1) rfl)
theorem e242 : Cond.fieldLink RX17 110 "WordFoundryModel" "at" "I" ∈ pw := plit_10_in (List.mem_of_getElem? (i := 2) rfl)
theorem e243 : Cond.fieldLink RX17 155 "WordFoundryModel" "base" "I" ∈ pw := plit_10_in (List.mem_of_getElem? (i := 3) rfl)
theorem e244 : Cond.fieldLink RX17 86 "WordFoundryModel" "spent" "I" ∈ pw := plit_10_in (List.mem_of_getElem? (i := 4) rfl)
theorem e245 : Cond.fieldLink RX17 380 "WordFoundryModel" "hasError" "Z" ∈ pw := plit_10_in (List.mem_of_getElem? (i := 5) rfl)
theorem e246 : Cond.methodLink RX17 64 yJx4a65c_clear_da8c8 ∈ pw := plit_10_in (List.mem_of_getElem? (i := 6) rfl)
theorem e247 : Cond.instanceMethod yJx4a65c_clear_da8c8 ∈ pw := plit_10_in (List.mem_of_getElem? (i := 7) rfl)
theorem e248 : Cond.code yJx4a65c_clear_da8c8 cJx4a65c_clear_da8c8 4 none ∈ pw := plit_10_in (List.mem_of_getElem? (i := 8) rfl)
theorem e249 : Cond.selects RJx4a65c yJx4a65c_clear_da8c8 yJx4a65c_clear_da8c8 ∈ pw := plit_10_in (List.mem_of_getElem? (i := 9) rfl)
theorem e250 : Cond.fieldLink RX17 303 "WordFoundryModel" "isCompiling" "Z" ∈ pw := plit_10_in (List.mem_of_getElem? (i := 10) rfl)
theorem e251 : Cond.fieldLink RX17 378 "WordFoundryModel" "error" "I" ∈ pw := plit_10_in (List.mem_of_getElem? (i := 11) rfl)
theorem e252 : Cond.fieldLink RX17 188 "WordFoundryModel" "here" "I" ∈ pw := plit_10_in (List.mem_of_getElem? (i := 12) rfl)
theorem e253 : Cond.methodLink RX17 396 yX17_isEntry ∈ pw := plit_10_in (List.mem_of_getElem? (i := 13) rfl)
theorem e254 : Cond.instanceMethod yX17_isEntry ∈ pw := plit_10_in (List.mem_of_getElem? (i := 14) rfl)
theorem e255 : Cond.code yX17_isEntry cX17_isEntry 2 (some .boolean) ∈ pw := plit_10_in (List.mem_of_getElem? (i := 15) rfl)
theorem e256 : Cond.selects RX17 yX17_isEntry yX17_isEntry ∈ pw := plit_10_in (List.mem_of_getElem? (i := 16) rfl)
theorem e257 : Cond.methodLink RX17 137 yX17_found ∈ pw := plit_10_in (List.mem_of_getElem? (i := 17) rfl)
theorem e258 : Cond.instanceMethod yX17_found ∈ pw := plit_10_in (List.mem_of_getElem? (i := 18) rfl)
theorem e259 : Cond.code yX17_found cX17_found 3 (some .int) ∈ pw := plit_10_in (List.mem_of_getElem? (i := 19) rfl)
theorem e260 : Cond.selects RX17 yX17_found yX17_found ∈ pw := plit_10_in (List.mem_of_getElem? (i := 20) rfl)
theorem e261 : Cond.methodLink RX17 400 yX17_isOp ∈ pw := plit_10_in (List.mem_of_getElem? (i := 21) rfl)
theorem e262 : Cond.instanceMethod yX17_isOp ∈ pw := plit_10_in (List.mem_of_getElem? (i := 22) rfl)
theorem e263 : Cond.code yX17_isOp cX17_isOp 3 (some .boolean) ∈ pw := plit_10_in (List.mem_of_getElem? (i := 23) rfl)
theorem e264 : Cond.selects RX17 yX17_isOp yX17_isOp ∈ pw := plit_11_in (List.mem_of_getElem? (i := 0) rfl)
theorem e265 : Cond.fieldLink RX17 145 "WordFoundryModel" "making" "LWordFoundryModel$Entry;" ∈ pw := plit_11_in (List.mem_of_getElem? (i := 1) rfl)
theorem e266 : Cond.fieldLink RX17 92 "WordFoundryModel" "steps" "J" ∈ pw := plit_11_in (List.mem_of_getElem? (i := 2) rfl)
theorem e267 : Cond.fieldLink RX17 383 "WordFoundryModel" "errors" "I" ∈ pw := plit_11_in (List.mem_of_getElem? (i := 3) rfl)
theorem e268 : Cond.methodLink RL 7 yX11_word ∈ pw := plit_11_in (List.mem_of_getElem? (i := 4) rfl)
theorem e269 : Cond.instanceMethod yX11_word ∈ pw := plit_11_in (List.mem_of_getElem? (i := 5) rfl)
theorem e270 : Cond.initialized RX11 ∈ pw := plit_11_in (List.mem_of_getElem? (i := 6) rfl)
theorem e271 : Cond.code yX11_word cX11_word 2 (some .int) ∈ pw := plit_11_in (List.mem_of_getElem? (i := 7) rfl)
theorem e272 : Cond.selects RX11 yX11_word yX11_word ∈ pw := plit_11_in (List.mem_of_getElem? (i := 8) rfl)
theorem e273 : Cond.methodLink RL 17 yX11_name ∈ pw := plit_11_in (List.mem_of_getElem? (i := 9) rfl)
theorem e274 : Cond.instanceMethod yX11_name ∈ pw := plit_11_in (List.mem_of_getElem? (i := 10) rfl)
theorem e275 : Cond.code yX11_name cX11_name 2 (some .int) ∈ pw := plit_11_in (List.mem_of_getElem? (i := 11) rfl)
theorem e276 : Cond.selects RX11 yX11_name yX11_name ∈ pw := plit_11_in (List.mem_of_getElem? (i := 12) rfl)
theorem e277 : Cond.methodLink RL 21 yX11_number ∈ pw := plit_11_in (List.mem_of_getElem? (i := 13) rfl)
theorem e278 : Cond.instanceMethod yX11_number ∈ pw := plit_11_in (List.mem_of_getElem? (i := 14) rfl)
theorem e279 : Cond.code yX11_number cX11_number 2 (some .int) ∈ pw := plit_11_in (List.mem_of_getElem? (i := 15) rfl)
theorem e280 : Cond.selects RX11 yX11_number yX11_number ∈ pw := plit_11_in (List.mem_of_getElem? (i := 16) rfl)
theorem e281 : Cond.methodLink RL 24 yX11_error ∈ pw := plit_11_in (List.mem_of_getElem? (i := 17) rfl)
theorem e282 : Cond.instanceMethod yX11_error ∈ pw := plit_11_in (List.mem_of_getElem? (i := 18) rfl)
theorem e283 : Cond.code yX11_error cX11_error 1 (some .int) ∈ pw := plit_11_in (List.mem_of_getElem? (i := 19) rfl)
theorem e284 : Cond.selects RX11 yX11_error yX11_error ∈ pw := plit_11_in (List.mem_of_getElem? (i := 20) rfl)
theorem e285 : Cond.methodLink RL 30 yX11_traceAt ∈ pw := plit_11_in (List.mem_of_getElem? (i := 21) rfl)
theorem e286 : Cond.instanceMethod yX11_traceAt ∈ pw := plit_11_in (List.mem_of_getElem? (i := 22) rfl)
theorem e287 : Cond.code yX11_traceAt cX11_traceAt 2 (some .int) ∈ pw := plit_11_in (List.mem_of_getElem? (i := 23) rfl)
theorem e288 : Cond.selects RX11 yX11_traceAt yX11_traceAt ∈ pw := plit_12_in (List.mem_of_getElem? (i := 0) rfl)
theorem e289 : Cond.methodLink RL 35 yX11_at ∈ pw := plit_12_in (List.mem_of_getElem? (i := 1) rfl)
theorem e290 : Cond.instanceMethod yX11_at ∈ pw := plit_12_in (List.mem_of_getElem? (i := 2) rfl)
theorem e291 : Cond.code yX11_at cX11_at 2 (some .int) ∈ pw := plit_12_in (List.mem_of_getElem? (i := 3) rfl)
theorem e292 : Cond.selects RX11 yX11_at yX11_at ∈ pw := plit_12_in (List.mem_of_getElem? (i := 4) rfl)
theorem e293 : Cond.methodLink RL 38 yX11_cell ∈ pw := plit_12_in (List.mem_of_getElem? (i := 5) rfl)
theorem e294 : Cond.instanceMethod yX11_cell ∈ pw := plit_12_in (List.mem_of_getElem? (i := 6) rfl)
theorem e295 : Cond.code yX11_cell cX11_cell 2 (some .int) ∈ pw := plit_12_in (List.mem_of_getElem? (i := 7) rfl)
theorem e296 : Cond.selects RX11 yX11_cell yX11_cell ∈ pw := plit_12_in (List.mem_of_getElem? (i := 8) rfl)
theorem e297 : Cond.methodLink RL 41 yX11_outAt ∈ pw := plit_12_in (List.mem_of_getElem? (i := 9) rfl)
theorem e298 : Cond.instanceMethod yX11_outAt ∈ pw := plit_12_in (List.mem_of_getElem? (i := 10) rfl)
theorem e299 : Cond.code yX11_outAt cX11_outAt 2 (some .int) ∈ pw := plit_12_in (List.mem_of_getElem? (i := 11) rfl)
theorem e300 : Cond.selects RX11 yX11_outAt yX11_outAt ∈ pw := plit_12_in (List.mem_of_getElem? (i := 12) rfl)
theorem e301 : Cond.methodLink RL 44 yX11_nameOf ∈ pw := plit_12_in (List.mem_of_getElem? (i := 13) rfl)
theorem e302 : Cond.instanceMethod yX11_nameOf ∈ pw := plit_12_in (List.mem_of_getElem? (i := 14) rfl)
theorem e303 : Cond.code yX11_nameOf cX11_nameOf 2 (some .int) ∈ pw := plit_12_in (List.mem_of_getElem? (i := 15) rfl)
theorem e304 : Cond.selects RX11 yX11_nameOf yX11_nameOf ∈ pw := plit_12_in (List.mem_of_getElem? (i := 16) rfl)
theorem e305 : Cond.methodLink RL 47 yX11_kindOf ∈ pw := plit_12_in (List.mem_of_getElem? (i := 17) rfl)
theorem e306 : Cond.instanceMethod yX11_kindOf ∈ pw := plit_12_in (List.mem_of_getElem? (i := 18) rfl)
theorem e307 : Cond.code yX11_kindOf cX11_kindOf 2 (some .char) ∈ pw := plit_12_in (List.mem_of_getElem? (i := 19) rfl)
theorem e308 : Cond.selects RX11 yX11_kindOf yX11_kindOf ∈ pw := plit_12_in (List.mem_of_getElem? (i := 20) rfl)
theorem e309 : Cond.methodLink RL 51 yX11_isImmediate ∈ pw := plit_12_in (List.mem_of_getElem? (i := 21) rfl)
theorem e310 : Cond.instanceMethod yX11_isImmediate ∈ pw := plit_12_in (List.mem_of_getElem? (i := 22) rfl)
theorem e311 : Cond.code yX11_isImmediate cX11_isImmediate 2 (some .boolean) ∈ pw := plit_12_in (List.mem_of_getElem? (i := 23) rfl)
theorem e312 : Cond.selects RX11 yX11_isImmediate yX11_isImmediate ∈ pw := plit_13_in (List.mem_of_getElem? (i := 0) rfl)
theorem e313 : Cond.methodLink RL 55 yX11_vocabularyOf ∈ pw := plit_13_in (List.mem_of_getElem? (i := 1) rfl)
theorem e314 : Cond.instanceMethod yX11_vocabularyOf ∈ pw := plit_13_in (List.mem_of_getElem? (i := 2) rfl)
theorem e315 : Cond.code yX11_vocabularyOf cX11_vocabularyOf 2 (some .int) ∈ pw := plit_13_in (List.mem_of_getElem? (i := 3) rfl)
theorem e316 : Cond.selects RX11 yX11_vocabularyOf yX11_vocabularyOf ∈ pw := plit_13_in (List.mem_of_getElem? (i := 4) rfl)
theorem e317 : Cond.methodLink RL 58 yX11_find ∈ pw := plit_13_in (List.mem_of_getElem? (i := 5) rfl)
theorem e318 : Cond.instanceMethod yX11_find ∈ pw := plit_13_in (List.mem_of_getElem? (i := 6) rfl)
theorem e319 : Cond.code yX11_find cX11_find 3 (some .int) ∈ pw := plit_13_in (List.mem_of_getElem? (i := 7) rfl)
theorem e320 : Cond.selects RX11 yX11_find yX11_find ∈ pw := plit_13_in (List.mem_of_getElem? (i := 8) rfl)
theorem e321 : Cond.methodLink RL 61 yX11_ops ∈ pw := plit_13_in (List.mem_of_getElem? (i := 9) rfl)
theorem e322 : Cond.instanceMethod yX11_ops ∈ pw := plit_13_in (List.mem_of_getElem? (i := 10) rfl)
theorem e323 : Cond.code yX11_ops cX11_ops 2 (some .int) ∈ pw := plit_13_in (List.mem_of_getElem? (i := 11) rfl)
theorem e324 : Cond.selects RX11 yX11_ops yX11_ops ∈ pw := plit_13_in (List.mem_of_getElem? (i := 12) rfl)
theorem e325 : Cond.methodLink RL 64 yX11_opAt ∈ pw := plit_13_in (List.mem_of_getElem? (i := 13) rfl)
theorem e326 : Cond.instanceMethod yX11_opAt ∈ pw := plit_13_in (List.mem_of_getElem? (i := 14) rfl)
theorem e327 : Cond.code yX11_opAt cX11_opAt 3 (some .char) ∈ pw := plit_13_in (List.mem_of_getElem? (i := 15) rfl)
theorem e328 : Cond.selects RX11 yX11_opAt yX11_opAt ∈ pw := plit_13_in (List.mem_of_getElem? (i := 16) rfl)
theorem e329 : Cond.methodLink RL 68 yX11_opNumber ∈ pw := plit_13_in (List.mem_of_getElem? (i := 17) rfl)
theorem e330 : Cond.instanceMethod yX11_opNumber ∈ pw := plit_13_in (List.mem_of_getElem? (i := 18) rfl)
theorem e331 : Cond.code yX11_opNumber cX11_opNumber 3 (some .int) ∈ pw := plit_13_in (List.mem_of_getElem? (i := 19) rfl)
theorem e332 : Cond.selects RX11 yX11_opNumber yX11_opNumber ∈ pw := plit_13_in (List.mem_of_getElem? (i := 20) rfl)
theorem e333 : Cond.methodLink RL 72 yX11_effect ∈ pw := plit_13_in (List.mem_of_getElem? (i := 21) rfl)
theorem e334 : Cond.instanceMethod yX11_effect ∈ pw := plit_13_in (List.mem_of_getElem? (i := 22) rfl)
theorem e335 : Cond.code yX11_effect cX11_effect 2 (some .int) ∈ pw := plit_13_in (List.mem_of_getElem? (i := 23) rfl)
theorem e336 : Cond.selects RX11 yX11_effect yX11_effect ∈ pw := plit_14_in (List.mem_of_getElem? (i := 0) rfl)
theorem e337 : Cond.methodLink RL 77 yX11_errorShare ∈ pw := plit_14_in (List.mem_of_getElem? (i := 1) rfl)
theorem e338 : Cond.instanceMethod yX11_errorShare ∈ pw := plit_14_in (List.mem_of_getElem? (i := 2) rfl)
theorem e339 : Cond.code yX11_errorShare cX11_errorShare 1 (some .float) ∈ pw := plit_14_in (List.mem_of_getElem? (i := 3) rfl)
theorem e340 : Cond.selects RX11 yX11_errorShare yX11_errorShare ∈ pw := plit_14_in (List.mem_of_getElem? (i := 4) rfl)
theorem e341 : Cond.methodLink RL 83 yX11_meanSteps ∈ pw := plit_14_in (List.mem_of_getElem? (i := 5) rfl)
theorem e342 : Cond.instanceMethod yX11_meanSteps ∈ pw := plit_14_in (List.mem_of_getElem? (i := 6) rfl)
theorem e343 : Cond.code yX11_meanSteps cX11_meanSteps 1 (some .double) ∈ pw := plit_14_in (List.mem_of_getElem? (i := 7) rfl)
theorem e344 : Cond.selects RX11 yX11_meanSteps yX11_meanSteps ∈ pw := plit_14_in (List.mem_of_getElem? (i := 8) rfl)
theorem e345 : Cond.classLink RL 8 RX11 ∈ pw := plit_14_in (List.mem_of_getElem? (i := 9) rfl)
theorem e346 : Cond.instantiable RX11 10 ∈ pw := plit_14_in (List.mem_of_getElem? (i := 10) rfl)
theorem e347 : Cond.methodLink RL 87 yX11_init ∈ pw := plit_14_in (List.mem_of_getElem? (i := 11) rfl)
theorem e348 : Cond.instanceMethod yX11_init ∈ pw := plit_14_in (List.mem_of_getElem? (i := 12) rfl)
theorem e349 : Cond.code yX11_init cX11_init 1 none ∈ pw := plit_14_in (List.mem_of_getElem? (i := 13) rfl)
theorem e350 : Cond.classLink RL 88 RX17 ∈ pw := plit_14_in (List.mem_of_getElem? (i := 14) rfl)
theorem e351 : Cond.instantiable RX17 31 ∈ pw := plit_14_in (List.mem_of_getElem? (i := 15) rfl)
theorem e352 : Cond.methodLink RL 90 yX17_init ∈ pw := plit_14_in (List.mem_of_getElem? (i := 16) rfl)
theorem e353 : Cond.instanceMethod yX17_init ∈ pw := plit_14_in (List.mem_of_getElem? (i := 17) rfl)
theorem e354 : Cond.code yX17_init cX17_init 1 none ∈ pw := plit_14_in (List.mem_of_getElem? (i := 18) rfl)
theorem e355 : Cond.arrayClass .long ∈ pw := plit_14_in (List.mem_of_getElem? (i := 19) rfl)
theorem e356 : Cond.arrayClass .double ∈ pw := plit_14_in (List.mem_of_getElem? (i := 20) rfl)
theorem e357 : Cond.methodLink RL 91 yL_word ∈ pw := plit_14_in (List.mem_of_getElem? (i := 21) rfl)
theorem e358 : Cond.static yL_word ∈ pw := plit_14_in (List.mem_of_getElem? (i := 22) rfl)
theorem e359 : Cond.initialized RL ∈ pw := plit_14_in (List.mem_of_getElem? (i := 23) rfl)
theorem e360 : Cond.methodLink RL 96 yX17_word ∈ pw := plit_15_in (List.mem_of_getElem? (i := 0) rfl)
theorem e361 : Cond.instanceMethod yX17_word ∈ pw := plit_15_in (List.mem_of_getElem? (i := 1) rfl)
theorem e362 : Cond.code yX17_word cX17_word 2 (some .int) ∈ pw := plit_15_in (List.mem_of_getElem? (i := 2) rfl)
theorem e363 : Cond.selects RX17 yX17_word yX17_word ∈ pw := plit_15_in (List.mem_of_getElem? (i := 3) rfl)
theorem e364 : Cond.methodLink RL 97 yX17_thrown ∈ pw := plit_15_in (List.mem_of_getElem? (i := 4) rfl)
theorem e365 : Cond.instanceMethod yX17_thrown ∈ pw := plit_15_in (List.mem_of_getElem? (i := 5) rfl)
theorem e366 : Cond.code yX17_thrown cX17_thrown 1 (some .int) ∈ pw := plit_15_in (List.mem_of_getElem? (i := 6) rfl)
theorem e367 : Cond.selects RX17 yX17_thrown yX17_thrown ∈ pw := plit_15_in (List.mem_of_getElem? (i := 7) rfl)
theorem e368 : Cond.methodLink RL 100 yL_name ∈ pw := plit_15_in (List.mem_of_getElem? (i := 8) rfl)
theorem e369 : Cond.static yL_name ∈ pw := plit_15_in (List.mem_of_getElem? (i := 9) rfl)
theorem e370 : Cond.methodLink RL 103 yX17_name ∈ pw := plit_15_in (List.mem_of_getElem? (i := 10) rfl)
theorem e371 : Cond.instanceMethod yX17_name ∈ pw := plit_15_in (List.mem_of_getElem? (i := 11) rfl)
theorem e372 : Cond.code yX17_name cX17_name 2 (some .int) ∈ pw := plit_15_in (List.mem_of_getElem? (i := 12) rfl)
theorem e373 : Cond.selects RX17 yX17_name yX17_name ∈ pw := plit_15_in (List.mem_of_getElem? (i := 13) rfl)
theorem e374 : Cond.methodLink RL 104 yL_number ∈ pw := plit_15_in (List.mem_of_getElem? (i := 14) rfl)
theorem e375 : Cond.static yL_number ∈ pw := plit_15_in (List.mem_of_getElem? (i := 15) rfl)
theorem e376 : Cond.methodLink RL 106 yX17_number ∈ pw := plit_15_in (List.mem_of_getElem? (i := 16) rfl)
theorem e377 : Cond.instanceMethod yX17_number ∈ pw := plit_15_in (List.mem_of_getElem? (i := 17) rfl)
theorem e378 : Cond.code yX17_number cX17_number 2 (some .int) ∈ pw := plit_15_in (List.mem_of_getElem? (i := 18) rfl)
theorem e379 : Cond.selects RX17 yX17_number yX17_number ∈ pw := plit_15_in (List.mem_of_getElem? (i := 19) rfl)
theorem e380 : Cond.methodLink RL 107 yX11_enter ∈ pw := plit_15_in (List.mem_of_getElem? (i := 20) rfl)
theorem e381 : Cond.instanceMethod yX11_enter ∈ pw := plit_15_in (List.mem_of_getElem? (i := 21) rfl)
theorem e382 : Cond.code yX11_enter cX11_enter 3 (some .char) ∈ pw := plit_15_in (List.mem_of_getElem? (i := 22) rfl)
theorem e383 : Cond.selects RX11 yX11_enter yX11_enter ∈ pw := plit_15_in (List.mem_of_getElem? (i := 23) rfl)
theorem e384 : Cond.methodLink RL 111 yX17_enter ∈ pw := plit_16_in (List.mem_of_getElem? (i := 0) rfl)
theorem e385 : Cond.instanceMethod yX17_enter ∈ pw := plit_16_in (List.mem_of_getElem? (i := 1) rfl)
theorem e386 : Cond.selects RX17 yX17_enter yX17_enter ∈ pw := plit_16_in (List.mem_of_getElem? (i := 2) rfl)
theorem e387 : Cond.methodLink RL 112 yL_error ∈ pw := plit_16_in (List.mem_of_getElem? (i := 3) rfl)
theorem e388 : Cond.static yL_error ∈ pw := plit_16_in (List.mem_of_getElem? (i := 4) rfl)
theorem e389 : Cond.methodLink RL 115 yX17_error_ ∈ pw := plit_16_in (List.mem_of_getElem? (i := 5) rfl)
theorem e390 : Cond.instanceMethod yX17_error_ ∈ pw := plit_16_in (List.mem_of_getElem? (i := 6) rfl)
theorem e391 : Cond.code yX17_error_ cX17_error_ 1 (some .int) ∈ pw := plit_16_in (List.mem_of_getElem? (i := 7) rfl)
theorem e392 : Cond.selects RX17 yX17_error_ yX17_error_ ∈ pw := plit_16_in (List.mem_of_getElem? (i := 8) rfl)
theorem e393 : Cond.methodLink RL 116 yX11_trace ∈ pw := plit_16_in (List.mem_of_getElem? (i := 9) rfl)
theorem e394 : Cond.instanceMethod yX11_trace ∈ pw := plit_16_in (List.mem_of_getElem? (i := 10) rfl)
theorem e395 : Cond.code yX11_trace cX11_trace 1 (some .int) ∈ pw := plit_16_in (List.mem_of_getElem? (i := 11) rfl)
theorem e396 : Cond.selects RX11 yX11_trace yX11_trace ∈ pw := plit_16_in (List.mem_of_getElem? (i := 12) rfl)
theorem e397 : Cond.methodLink RL 119 yX17_trace ∈ pw := plit_16_in (List.mem_of_getElem? (i := 13) rfl)
theorem e398 : Cond.instanceMethod yX17_trace ∈ pw := plit_16_in (List.mem_of_getElem? (i := 14) rfl)
theorem e399 : Cond.code yX17_trace cX17_trace 1 (some .int) ∈ pw := plit_16_in (List.mem_of_getElem? (i := 15) rfl)
theorem e400 : Cond.selects RX17 yX17_trace yX17_trace ∈ pw := plit_16_in (List.mem_of_getElem? (i := 16) rfl)
theorem e401 : Cond.methodLink RL 120 yL_traceAt ∈ pw := plit_16_in (List.mem_of_getElem? (i := 17) rfl)
theorem e402 : Cond.static yL_traceAt ∈ pw := plit_16_in (List.mem_of_getElem? (i := 18) rfl)
theorem e403 : Cond.methodLink RL 122 yX17_traceAt ∈ pw := plit_16_in (List.mem_of_getElem? (i := 19) rfl)
theorem e404 : Cond.instanceMethod yX17_traceAt ∈ pw := plit_16_in (List.mem_of_getElem? (i := 20) rfl)
theorem e405 : Cond.code yX17_traceAt cX17_traceAt 2 (some .int) ∈ pw := plit_16_in (List.mem_of_getElem? (i := 21) rfl)
theorem e406 : Cond.selects RX17 yX17_traceAt yX17_traceAt ∈ pw := plit_16_in (List.mem_of_getElem? (i := 22) rfl)
theorem e407 : Cond.methodLink RL 123 yX11_depth ∈ pw := plit_16_in (List.mem_of_getElem? (i := 23) rfl)
theorem e408 : Cond.instanceMethod yX11_depth ∈ pw := plit_17_in (List.mem_of_getElem? (i := 0) rfl)
theorem e409 : Cond.code yX11_depth cX11_depth 1 (some .int) ∈ pw := plit_17_in (List.mem_of_getElem? (i := 1) rfl)
theorem e410 : Cond.selects RX11 yX11_depth yX11_depth ∈ pw := plit_17_in (List.mem_of_getElem? (i := 2) rfl)
theorem e411 : Cond.methodLink RL 126 yX17_depth ∈ pw := plit_17_in (List.mem_of_getElem? (i := 3) rfl)
theorem e412 : Cond.instanceMethod yX17_depth ∈ pw := plit_17_in (List.mem_of_getElem? (i := 4) rfl)
theorem e413 : Cond.code yX17_depth cX17_depth 1 (some .int) ∈ pw := plit_17_in (List.mem_of_getElem? (i := 5) rfl)
theorem e414 : Cond.selects RX17 yX17_depth yX17_depth ∈ pw := plit_17_in (List.mem_of_getElem? (i := 6) rfl)
theorem e415 : Cond.methodLink RL 127 yL_at ∈ pw := plit_17_in (List.mem_of_getElem? (i := 7) rfl)
theorem e416 : Cond.static yL_at ∈ pw := plit_17_in (List.mem_of_getElem? (i := 8) rfl)
theorem e417 : Cond.methodLink RL 129 yX17_at ∈ pw := plit_17_in (List.mem_of_getElem? (i := 9) rfl)
theorem e418 : Cond.instanceMethod yX17_at ∈ pw := plit_17_in (List.mem_of_getElem? (i := 10) rfl)
theorem e419 : Cond.code yX17_at cX17_at 2 (some .int) ∈ pw := plit_17_in (List.mem_of_getElem? (i := 11) rfl)
theorem e420 : Cond.selects RX17 yX17_at yX17_at ∈ pw := plit_17_in (List.mem_of_getElem? (i := 12) rfl)
theorem e421 : Cond.methodLink RL 130 yX11_second ∈ pw := plit_17_in (List.mem_of_getElem? (i := 13) rfl)
theorem e422 : Cond.instanceMethod yX11_second ∈ pw := plit_17_in (List.mem_of_getElem? (i := 14) rfl)
theorem e423 : Cond.code yX11_second cX11_second 1 (some .int) ∈ pw := plit_17_in (List.mem_of_getElem? (i := 15) rfl)
theorem e424 : Cond.selects RX11 yX11_second yX11_second ∈ pw := plit_17_in (List.mem_of_getElem? (i := 16) rfl)
theorem e425 : Cond.methodLink RL 133 yX17_second ∈ pw := plit_17_in (List.mem_of_getElem? (i := 17) rfl)
theorem e426 : Cond.instanceMethod yX17_second ∈ pw := plit_17_in (List.mem_of_getElem? (i := 18) rfl)
theorem e427 : Cond.code yX17_second cX17_second 1 (some .int) ∈ pw := plit_17_in (List.mem_of_getElem? (i := 19) rfl)
theorem e428 : Cond.selects RX17 yX17_second yX17_second ∈ pw := plit_17_in (List.mem_of_getElem? (i := 20) rfl)
theorem e429 : Cond.methodLink RL 134 yX11_here ∈ pw := plit_17_in (List.mem_of_getElem? (i := 21) rfl)
theorem e430 : Cond.instanceMethod yX11_here ∈ pw := plit_17_in (List.mem_of_getElem? (i := 22) rfl)
theorem e431 : Cond.code yX11_here cX11_here 1 (some .int) ∈ pw := plit_17_in (List.mem_of_getElem? (i := 23) rfl)
theorem e432 : Cond.selects RX11 yX11_here yX11_here ∈ pw := plit_18_in (List.mem_of_getElem? (i := 0) rfl)
theorem e433 : Cond.methodLink RL 137 yX17_here ∈ pw := plit_18_in (List.mem_of_getElem? (i := 1) rfl)
theorem e434 : Cond.instanceMethod yX17_here ∈ pw := plit_18_in (List.mem_of_getElem? (i := 2) rfl)
theorem e435 : Cond.code yX17_here cX17_here 1 (some .int) ∈ pw := plit_18_in (List.mem_of_getElem? (i := 3) rfl)
theorem e436 : Cond.selects RX17 yX17_here yX17_here ∈ pw := plit_18_in (List.mem_of_getElem? (i := 4) rfl)
theorem e437 : Cond.methodLink RL 138 yL_cell ∈ pw := plit_18_in (List.mem_of_getElem? (i := 5) rfl)
theorem e438 : Cond.static yL_cell ∈ pw := plit_18_in (List.mem_of_getElem? (i := 6) rfl)
theorem e439 : Cond.methodLink RL 140 yX17_cell ∈ pw := plit_18_in (List.mem_of_getElem? (i := 7) rfl)
theorem e440 : Cond.instanceMethod yX17_cell ∈ pw := plit_18_in (List.mem_of_getElem? (i := 8) rfl)
theorem e441 : Cond.code yX17_cell cX17_cell 2 (some .int) ∈ pw := plit_18_in (List.mem_of_getElem? (i := 9) rfl)
theorem e442 : Cond.selects RX17 yX17_cell yX17_cell ∈ pw := plit_18_in (List.mem_of_getElem? (i := 10) rfl)
theorem e443 : Cond.methodLink RL 141 yX11_outs ∈ pw := plit_18_in (List.mem_of_getElem? (i := 11) rfl)
theorem e444 : Cond.instanceMethod yX11_outs ∈ pw := plit_18_in (List.mem_of_getElem? (i := 12) rfl)
theorem e445 : Cond.code yX11_outs cX11_outs 1 (some .int) ∈ pw := plit_18_in (List.mem_of_getElem? (i := 13) rfl)
theorem e446 : Cond.selects RX11 yX11_outs yX11_outs ∈ pw := plit_18_in (List.mem_of_getElem? (i := 14) rfl)
theorem e447 : Cond.methodLink RL 144 yX17_outs ∈ pw := plit_18_in (List.mem_of_getElem? (i := 15) rfl)
theorem e448 : Cond.instanceMethod yX17_outs ∈ pw := plit_18_in (List.mem_of_getElem? (i := 16) rfl)
theorem e449 : Cond.code yX17_outs cX17_outs 1 (some .int) ∈ pw := plit_18_in (List.mem_of_getElem? (i := 17) rfl)
theorem e450 : Cond.selects RX17 yX17_outs yX17_outs ∈ pw := plit_18_in (List.mem_of_getElem? (i := 18) rfl)
theorem e451 : Cond.methodLink RL 145 yL_outAt ∈ pw := plit_18_in (List.mem_of_getElem? (i := 19) rfl)
theorem e452 : Cond.static yL_outAt ∈ pw := plit_18_in (List.mem_of_getElem? (i := 20) rfl)
theorem e453 : Cond.methodLink RL 147 yX17_outAt ∈ pw := plit_18_in (List.mem_of_getElem? (i := 21) rfl)
theorem e454 : Cond.instanceMethod yX17_outAt ∈ pw := plit_18_in (List.mem_of_getElem? (i := 22) rfl)
theorem e455 : Cond.code yX17_outAt cX17_outAt 2 (some .int) ∈ pw := plit_18_in (List.mem_of_getElem? (i := 23) rfl)
theorem e456 : Cond.selects RX17 yX17_outAt yX17_outAt ∈ pw := plit_19_in (List.mem_of_getElem? (i := 0) rfl)
theorem e457 : Cond.methodLink RL 148 yX11_entries ∈ pw := plit_19_in (List.mem_of_getElem? (i := 1) rfl)
theorem e458 : Cond.instanceMethod yX11_entries ∈ pw := plit_19_in (List.mem_of_getElem? (i := 2) rfl)
theorem e459 : Cond.code yX11_entries cX11_entries 1 (some .int) ∈ pw := plit_19_in (List.mem_of_getElem? (i := 3) rfl)
theorem e460 : Cond.selects RX11 yX11_entries yX11_entries ∈ pw := plit_19_in (List.mem_of_getElem? (i := 4) rfl)
theorem e461 : Cond.methodLink RL 151 yX17_entries ∈ pw := plit_19_in (List.mem_of_getElem? (i := 5) rfl)
theorem e462 : Cond.instanceMethod yX17_entries ∈ pw := plit_19_in (List.mem_of_getElem? (i := 6) rfl)
theorem e463 : Cond.code yX17_entries cX17_entries 1 (some .int) ∈ pw := plit_19_in (List.mem_of_getElem? (i := 7) rfl)
theorem e464 : Cond.selects RX17 yX17_entries yX17_entries ∈ pw := plit_19_in (List.mem_of_getElem? (i := 8) rfl)
theorem e465 : Cond.methodLink RL 152 yL_nameOf ∈ pw := plit_19_in (List.mem_of_getElem? (i := 9) rfl)
theorem e466 : Cond.static yL_nameOf ∈ pw := plit_19_in (List.mem_of_getElem? (i := 10) rfl)
theorem e467 : Cond.methodLink RL 154 yX17_nameOf ∈ pw := plit_19_in (List.mem_of_getElem? (i := 11) rfl)
theorem e468 : Cond.instanceMethod yX17_nameOf ∈ pw := plit_19_in (List.mem_of_getElem? (i := 12) rfl)
theorem e469 : Cond.code yX17_nameOf cX17_nameOf 2 (some .int) ∈ pw := plit_19_in (List.mem_of_getElem? (i := 13) rfl)
theorem e470 : Cond.selects RX17 yX17_nameOf yX17_nameOf ∈ pw := plit_19_in (List.mem_of_getElem? (i := 14) rfl)
theorem e471 : Cond.methodLink RL 155 yL_kindOf ∈ pw := plit_19_in (List.mem_of_getElem? (i := 15) rfl)
theorem e472 : Cond.static yL_kindOf ∈ pw := plit_19_in (List.mem_of_getElem? (i := 16) rfl)
theorem e473 : Cond.methodLink RL 157 yX17_kindOf ∈ pw := plit_19_in (List.mem_of_getElem? (i := 17) rfl)
theorem e474 : Cond.instanceMethod yX17_kindOf ∈ pw := plit_19_in (List.mem_of_getElem? (i := 18) rfl)
theorem e475 : Cond.code yX17_kindOf cX17_kindOf 2 (some .char) ∈ pw := plit_19_in (List.mem_of_getElem? (i := 19) rfl)
theorem e476 : Cond.selects RX17 yX17_kindOf yX17_kindOf ∈ pw := plit_19_in (List.mem_of_getElem? (i := 20) rfl)
theorem e477 : Cond.methodLink RL 158 yL_isImmediate ∈ pw := plit_19_in (List.mem_of_getElem? (i := 21) rfl)
theorem e478 : Cond.static yL_isImmediate ∈ pw := plit_19_in (List.mem_of_getElem? (i := 22) rfl)
theorem e479 : Cond.methodLink RL 160 yX17_isImmediate ∈ pw := plit_19_in (List.mem_of_getElem? (i := 23) rfl)
theorem e480 : Cond.instanceMethod yX17_isImmediate ∈ pw := plit_20_in (List.mem_of_getElem? (i := 0) rfl)
theorem e481 : Cond.code yX17_isImmediate cX17_isImmediate 2 (some .boolean) ∈ pw := plit_20_in (List.mem_of_getElem? (i := 1) rfl)
theorem e482 : Cond.selects RX17 yX17_isImmediate yX17_isImmediate ∈ pw := plit_20_in (List.mem_of_getElem? (i := 2) rfl)
theorem e483 : Cond.methodLink RL 161 yL_vocabularyOf ∈ pw := plit_20_in (List.mem_of_getElem? (i := 3) rfl)
theorem e484 : Cond.static yL_vocabularyOf ∈ pw := plit_20_in (List.mem_of_getElem? (i := 4) rfl)
theorem e485 : Cond.methodLink RL 163 yX17_vocabularyOf ∈ pw := plit_20_in (List.mem_of_getElem? (i := 5) rfl)
theorem e486 : Cond.instanceMethod yX17_vocabularyOf ∈ pw := plit_20_in (List.mem_of_getElem? (i := 6) rfl)
theorem e487 : Cond.code yX17_vocabularyOf cX17_vocabularyOf 2 (some .int) ∈ pw := plit_20_in (List.mem_of_getElem? (i := 7) rfl)
theorem e488 : Cond.selects RX17 yX17_vocabularyOf yX17_vocabularyOf ∈ pw := plit_20_in (List.mem_of_getElem? (i := 8) rfl)
theorem e489 : Cond.methodLink RL 164 yL_find ∈ pw := plit_20_in (List.mem_of_getElem? (i := 9) rfl)
theorem e490 : Cond.static yL_find ∈ pw := plit_20_in (List.mem_of_getElem? (i := 10) rfl)
theorem e491 : Cond.methodLink RL 166 yX17_find ∈ pw := plit_20_in (List.mem_of_getElem? (i := 11) rfl)
theorem e492 : Cond.instanceMethod yX17_find ∈ pw := plit_20_in (List.mem_of_getElem? (i := 12) rfl)
theorem e493 : Cond.code yX17_find cX17_find 3 (some .int) ∈ pw := plit_20_in (List.mem_of_getElem? (i := 13) rfl)
theorem e494 : Cond.selects RX17 yX17_find yX17_find ∈ pw := plit_20_in (List.mem_of_getElem? (i := 14) rfl)
theorem e495 : Cond.methodLink RL 167 yL_ops ∈ pw := plit_20_in (List.mem_of_getElem? (i := 15) rfl)
theorem e496 : Cond.static yL_ops ∈ pw := plit_20_in (List.mem_of_getElem? (i := 16) rfl)
theorem e497 : Cond.methodLink RL 169 yX17_ops ∈ pw := plit_20_in (List.mem_of_getElem? (i := 17) rfl)
theorem e498 : Cond.instanceMethod yX17_ops ∈ pw := plit_20_in (List.mem_of_getElem? (i := 18) rfl)
theorem e499 : Cond.code yX17_ops cX17_ops 2 (some .int) ∈ pw := plit_20_in (List.mem_of_getElem? (i := 19) rfl)
theorem e500 : Cond.selects RX17 yX17_ops yX17_ops ∈ pw := plit_20_in (List.mem_of_getElem? (i := 20) rfl)
theorem e501 : Cond.methodLink RL 170 yL_opAt ∈ pw := plit_20_in (List.mem_of_getElem? (i := 21) rfl)
theorem e502 : Cond.static yL_opAt ∈ pw := plit_20_in (List.mem_of_getElem? (i := 22) rfl)
theorem e503 : Cond.methodLink RL 173 yX17_opAt ∈ pw := plit_20_in (List.mem_of_getElem? (i := 23) rfl)
theorem e504 : Cond.instanceMethod yX17_opAt ∈ pw := plit_21_in (List.mem_of_getElem? (i := 0) rfl)
theorem e505 : Cond.code yX17_opAt cX17_opAt 3 (some .char) ∈ pw := plit_21_in (List.mem_of_getElem? (i := 1) rfl)
theorem e506 : Cond.selects RX17 yX17_opAt yX17_opAt ∈ pw := plit_21_in (List.mem_of_getElem? (i := 2) rfl)
theorem e507 : Cond.methodLink RL 174 yL_opNumber ∈ pw := plit_21_in (List.mem_of_getElem? (i := 3) rfl)
theorem e508 : Cond.static yL_opNumber ∈ pw := plit_21_in (List.mem_of_getElem? (i := 4) rfl)
theorem e509 : Cond.methodLink RL 176 yX17_opNumber ∈ pw := plit_21_in (List.mem_of_getElem? (i := 5) rfl)
theorem e510 : Cond.instanceMethod yX17_opNumber ∈ pw := plit_21_in (List.mem_of_getElem? (i := 6) rfl)
theorem e511 : Cond.code yX17_opNumber cX17_opNumber 3 (some .int) ∈ pw := plit_21_in (List.mem_of_getElem? (i := 7) rfl)
theorem e512 : Cond.selects RX17 yX17_opNumber yX17_opNumber ∈ pw := plit_21_in (List.mem_of_getElem? (i := 8) rfl)
theorem e513 : Cond.methodLink RL 177 yL_effect ∈ pw := plit_21_in (List.mem_of_getElem? (i := 9) rfl)
theorem e514 : Cond.static yL_effect ∈ pw := plit_21_in (List.mem_of_getElem? (i := 10) rfl)
theorem e515 : Cond.methodLink RL 179 yX17_effect ∈ pw := plit_21_in (List.mem_of_getElem? (i := 11) rfl)
theorem e516 : Cond.instanceMethod yX17_effect ∈ pw := plit_21_in (List.mem_of_getElem? (i := 12) rfl)
theorem e517 : Cond.code yX17_effect cX17_effect 2 (some .int) ∈ pw := plit_21_in (List.mem_of_getElem? (i := 13) rfl)
theorem e518 : Cond.selects RX17 yX17_effect yX17_effect ∈ pw := plit_21_in (List.mem_of_getElem? (i := 14) rfl)
theorem e519 : Cond.methodLink RL 180 yX11_isMaking ∈ pw := plit_21_in (List.mem_of_getElem? (i := 15) rfl)
theorem e520 : Cond.instanceMethod yX11_isMaking ∈ pw := plit_21_in (List.mem_of_getElem? (i := 16) rfl)
theorem e521 : Cond.code yX11_isMaking cX11_isMaking 1 (some .boolean) ∈ pw := plit_21_in (List.mem_of_getElem? (i := 17) rfl)
theorem e522 : Cond.selects RX11 yX11_isMaking yX11_isMaking ∈ pw := plit_21_in (List.mem_of_getElem? (i := 18) rfl)
theorem e523 : Cond.methodLink RL 184 yX17_isMaking ∈ pw := plit_21_in (List.mem_of_getElem? (i := 19) rfl)
theorem e524 : Cond.instanceMethod yX17_isMaking ∈ pw := plit_21_in (List.mem_of_getElem? (i := 20) rfl)
theorem e525 : Cond.code yX17_isMaking cX17_isMaking 1 (some .boolean) ∈ pw := plit_21_in (List.mem_of_getElem? (i := 21) rfl)
theorem e526 : Cond.selects RX17 yX17_isMaking yX17_isMaking ∈ pw := plit_21_in (List.mem_of_getElem? (i := 22) rfl)
theorem e527 : Cond.methodLink RL 185 yX11_steps ∈ pw := plit_21_in (List.mem_of_getElem? (i := 23) rfl)
theorem e528 : Cond.instanceMethod yX11_steps ∈ pw := plit_22_in (List.mem_of_getElem? (i := 0) rfl)
theorem e529 : Cond.code yX11_steps cX11_steps 1 (some .long) ∈ pw := plit_22_in (List.mem_of_getElem? (i := 1) rfl)
theorem e530 : Cond.selects RX11 yX11_steps yX11_steps ∈ pw := plit_22_in (List.mem_of_getElem? (i := 2) rfl)
theorem e531 : Cond.methodLink RL 189 yX17_steps ∈ pw := plit_22_in (List.mem_of_getElem? (i := 3) rfl)
theorem e532 : Cond.instanceMethod yX17_steps ∈ pw := plit_22_in (List.mem_of_getElem? (i := 4) rfl)
theorem e533 : Cond.code yX17_steps cX17_steps 1 (some .long) ∈ pw := plit_22_in (List.mem_of_getElem? (i := 5) rfl)
theorem e534 : Cond.selects RX17 yX17_steps yX17_steps ∈ pw := plit_22_in (List.mem_of_getElem? (i := 6) rfl)
theorem e535 : Cond.methodLink RL 190 yX11_lines ∈ pw := plit_22_in (List.mem_of_getElem? (i := 7) rfl)
theorem e536 : Cond.instanceMethod yX11_lines ∈ pw := plit_22_in (List.mem_of_getElem? (i := 8) rfl)
theorem e537 : Cond.code yX11_lines cX11_lines 1 (some .int) ∈ pw := plit_22_in (List.mem_of_getElem? (i := 9) rfl)
theorem e538 : Cond.selects RX11 yX11_lines yX11_lines ∈ pw := plit_22_in (List.mem_of_getElem? (i := 10) rfl)
theorem e539 : Cond.methodLink RL 193 yX17_lines ∈ pw := plit_22_in (List.mem_of_getElem? (i := 11) rfl)
theorem e540 : Cond.instanceMethod yX17_lines ∈ pw := plit_22_in (List.mem_of_getElem? (i := 12) rfl)
theorem e541 : Cond.code yX17_lines cX17_lines 1 (some .int) ∈ pw := plit_22_in (List.mem_of_getElem? (i := 13) rfl)
theorem e542 : Cond.selects RX17 yX17_lines yX17_lines ∈ pw := plit_22_in (List.mem_of_getElem? (i := 14) rfl)
theorem e543 : Cond.methodLink RL 194 yL_errorShare ∈ pw := plit_22_in (List.mem_of_getElem? (i := 15) rfl)
theorem e544 : Cond.static yL_errorShare ∈ pw := plit_22_in (List.mem_of_getElem? (i := 16) rfl)
theorem e545 : Cond.methodLink RL 197 yX17_errorShare ∈ pw := plit_22_in (List.mem_of_getElem? (i := 17) rfl)
theorem e546 : Cond.instanceMethod yX17_errorShare ∈ pw := plit_22_in (List.mem_of_getElem? (i := 18) rfl)
theorem e547 : Cond.code yX17_errorShare cX17_errorShare 1 (some .float) ∈ pw := plit_22_in (List.mem_of_getElem? (i := 19) rfl)
theorem e548 : Cond.selects RX17 yX17_errorShare yX17_errorShare ∈ pw := plit_22_in (List.mem_of_getElem? (i := 20) rfl)
theorem e549 : Cond.methodLink RL 198 yL_meanSteps ∈ pw := plit_22_in (List.mem_of_getElem? (i := 21) rfl)
theorem e550 : Cond.static yL_meanSteps ∈ pw := plit_22_in (List.mem_of_getElem? (i := 22) rfl)
theorem e551 : Cond.methodLink RL 200 yX17_meanSteps ∈ pw := plit_22_in (List.mem_of_getElem? (i := 23) rfl)
theorem e552 : Cond.instanceMethod yX17_meanSteps ∈ pw := plit_23_in (List.mem_of_getElem? (i := 0) rfl)
theorem e553 : Cond.code yX17_meanSteps cX17_meanSteps 1 (some .double) ∈ pw := plit_23_in (List.mem_of_getElem? (i := 1) rfl)
theorem e554 : Cond.selects RX17 yX17_meanSteps yX17_meanSteps ∈ pw := plit_23_in (List.mem_of_getElem? (i := 2) rfl)
theorem e555 : Cond.methodLink RL 201 yX11_isSound ∈ pw := plit_23_in (List.mem_of_getElem? (i := 3) rfl)
theorem e556 : Cond.instanceMethod yX11_isSound ∈ pw := plit_23_in (List.mem_of_getElem? (i := 4) rfl)
theorem e557 : Cond.code yX11_isSound cX11_isSound 5 (some .boolean) ∈ pw := plit_23_in (List.mem_of_getElem? (i := 5) rfl)
theorem e558 : Cond.selects RX11 yX11_isSound yX11_isSound ∈ pw := plit_23_in (List.mem_of_getElem? (i := 6) rfl)
theorem e559 : Cond.methodLink RL 204 yX17_isSound ∈ pw := plit_23_in (List.mem_of_getElem? (i := 7) rfl)
theorem e560 : Cond.instanceMethod yX17_isSound ∈ pw := plit_23_in (List.mem_of_getElem? (i := 8) rfl)
theorem e561 : Cond.code yX17_isSound cX17_isSound 1 (some .boolean) ∈ pw := plit_23_in (List.mem_of_getElem? (i := 9) rfl)
theorem e562 : Cond.selects RX17 yX17_isSound yX17_isSound ∈ pw := plit_23_in (List.mem_of_getElem? (i := 10) rfl)
theorem e563 : Cond.methodLink RJxa1e45 1 objectInit ∈ pw := plit_23_in (List.mem_of_getElem? (i := 11) rfl)
theorem e564 : Cond.methodLink RJxc12de 1 yJxa1e45_init_da8c8 ∈ pw := plit_23_in (List.mem_of_getElem? (i := 12) rfl)
theorem e565 : Cond.instanceMethod yJxa1e45_init_da8c8 ∈ pw := plit_23_in (List.mem_of_getElem? (i := 13) rfl)
theorem e566 : Cond.initialized RJxa1e45 ∈ pw := plit_23_in (List.mem_of_getElem? (i := 14) rfl)
theorem e567 : Cond.code yJxa1e45_init_da8c8 cJxa1e45_init_da8c8 1 none ∈ pw := plit_23_in (List.mem_of_getElem? (i := 15) rfl)
theorem e568 : Cond.fieldLink RJxc12de 7 "java/util/AbstractList" "modCount" "I" ∈ pw := plit_23_in (List.mem_of_getElem? (i := 16) rfl)
theorem e569 : Cond.methodLink RJx4a65c 1 yJxc12de_init_da8c8 ∈ pw := plit_23_in (List.mem_of_getElem? (i := 17) rfl)
theorem e570 : Cond.instanceMethod yJxc12de_init_da8c8 ∈ pw := plit_23_in (List.mem_of_getElem? (i := 18) rfl)
theorem e571 : Cond.initialized RJxc12de ∈ pw := plit_23_in (List.mem_of_getElem? (i := 19) rfl)
theorem e572 : Cond.code yJxc12de_init_da8c8 cJxc12de_init_da8c8 1 none ∈ pw := plit_23_in (List.mem_of_getElem? (i := 20) rfl)
theorem e573 : Cond.fieldLink RJx4a65c 39 "java/util/ArrayList" "DEFAULTCAPACITY_EMPTY_ELEMENTDATA" "[Ljava/lang/Object;" ∈ pw := plit_23_in (List.mem_of_getElem? (i := 21) rfl)
theorem e574 : Cond.fieldLink RJx4a65c 9 "java/util/ArrayList" "elementData" "[Ljava/lang/Object;" ∈ pw := plit_23_in (List.mem_of_getElem? (i := 22) rfl)
theorem e575 : Cond.fieldLink RJx4a65c 48 "java/util/ArrayList" "size" "I" ∈ pw := plit_23_in (List.mem_of_getElem? (i := 23) rfl)
theorem e576 : Cond.fieldLink RJx4a65c 63 "java/util/ArrayList" "modCount" "I" ∈ pw := plit_24_in (List.mem_of_getElem? (i := 0) rfl)
theorem e577 : Cond.methodLink RJx4a65c 131 yJx4a65c_add_72be8 ∈ pw := plit_24_in (List.mem_of_getElem? (i := 1) rfl)
theorem e578 : Cond.instanceMethod yJx4a65c_add_72be8 ∈ pw := plit_24_in (List.mem_of_getElem? (i := 2) rfl)
theorem e579 : Cond.code yJx4a65c_add_72be8 cJx4a65c_add_72be8 4 none ∈ pw := plit_24_in (List.mem_of_getElem? (i := 3) rfl)
theorem e580 : Cond.selects RJx4a65c yJx4a65c_add_72be8 yJx4a65c_add_72be8 ∈ pw := plit_24_in (List.mem_of_getElem? (i := 4) rfl)
theorem e581 : Cond.methodLink RJx4a65c 129 yJx4a65c_grow_d5877 ∈ pw := plit_24_in (List.mem_of_getElem? (i := 5) rfl)
theorem e582 : Cond.instanceMethod yJx4a65c_grow_d5877 ∈ pw := plit_24_in (List.mem_of_getElem? (i := 6) rfl)
theorem e583 : Cond.code yJx4a65c_grow_d5877 cJx4a65c_grow_d5877 1 (some (.array (.object "java/lang/Object"))) ∈ pw := plit_24_in (List.mem_of_getElem? (i := 7) rfl)
theorem e584 : Cond.selects RJx4a65c yJx4a65c_grow_d5877 yJx4a65c_grow_d5877 ∈ pw := plit_24_in (List.mem_of_getElem? (i := 8) rfl)
theorem e585 : Cond.methodLink RJx4a65c 69 yJx4a65c_grow_92f84 ∈ pw := plit_24_in (List.mem_of_getElem? (i := 9) rfl)
theorem e586 : Cond.instanceMethod yJx4a65c_grow_92f84 ∈ pw := plit_24_in (List.mem_of_getElem? (i := 10) rfl)
theorem e587 : Cond.code yJx4a65c_grow_92f84 cJx4a65c_grow_92f84 4 (some (.array (.object "java/lang/Object"))) ∈ pw := plit_24_in (List.mem_of_getElem? (i := 11) rfl)
theorem e588 : Cond.selects RJx4a65c yJx4a65c_grow_92f84 yJx4a65c_grow_92f84 ∈ pw := plit_24_in (List.mem_of_getElem? (i := 12) rfl)
theorem e589 : Cond.classLink RJx4a65c 7 "java/lang/Object" ∈ pw := plit_24_in (List.mem_of_getElem? (i := 13) rfl)
theorem e590 : Cond.methodLink RJ0 633 yJ0_indexOf_7cf53 ∈ pw := plit_24_in (List.mem_of_getElem? (i := 14) rfl)
theorem e591 : Cond.instanceMethod yJ0_indexOf_7cf53 ∈ pw := plit_24_in (List.mem_of_getElem? (i := 15) rfl)
theorem e592 : Cond.code yJ0_indexOf_7cf53 cJ0_indexOf_7cf53 3 (some .int) ∈ pw := plit_24_in (List.mem_of_getElem? (i := 16) rfl)
theorem e593 : Cond.selects RJ0 yJ0_indexOf_7cf53 yJ0_indexOf_7cf53 ∈ pw := plit_24_in (List.mem_of_getElem? (i := 17) rfl)
theorem e594 : Cond.methodLink RJ0 492 yJ0_isLatin1_aae02 ∈ pw := plit_24_in (List.mem_of_getElem? (i := 18) rfl)
theorem e595 : Cond.instanceMethod yJ0_isLatin1_aae02 ∈ pw := plit_24_in (List.mem_of_getElem? (i := 19) rfl)
theorem e596 : Cond.code yJ0_isLatin1_aae02 cJ0_isLatin1_aae02 1 (some .boolean) ∈ pw := plit_24_in (List.mem_of_getElem? (i := 20) rfl)
theorem e597 : Cond.selects RJ0 yJ0_isLatin1_aae02 yJ0_isLatin1_aae02 ∈ pw := plit_24_in (List.mem_of_getElem? (i := 21) rfl)
theorem e598 : Cond.fieldLink RJ0 9 "java/lang/String" "value" "[B" ∈ pw := plit_24_in (List.mem_of_getElem? (i := 22) rfl)
theorem e599 : Cond.methodLink RJ0 505 yJ0_length_8abf5 ∈ pw := plit_24_in (List.mem_of_getElem? (i := 23) rfl)
theorem e600 : Cond.instanceMethod yJ0_length_8abf5 ∈ pw := plit_25_in (List.mem_of_getElem? (i := 0) rfl)
theorem e601 : Cond.code yJ0_length_8abf5 cJ0_length_8abf5 1 (some .int) ∈ pw := plit_25_in (List.mem_of_getElem? (i := 1) rfl)
theorem e602 : Cond.selects RJ0 yJ0_length_8abf5 yJ0_length_8abf5 ∈ pw := plit_25_in (List.mem_of_getElem? (i := 2) rfl)
theorem e603 : Cond.methodLink RJ0 637 yJ1_indexOf_4cfef ∈ pw := plit_25_in (List.mem_of_getElem? (i := 3) rfl)
theorem e604 : Cond.static yJ1_indexOf_4cfef ∈ pw := plit_25_in (List.mem_of_getElem? (i := 4) rfl)
theorem e605 : Cond.initialized RJ1 ∈ pw := plit_25_in (List.mem_of_getElem? (i := 5) rfl)
theorem e606 : Cond.code yJ1_indexOf_4cfef cJ1_indexOf_4cfef 4 (some .int) ∈ pw := plit_25_in (List.mem_of_getElem? (i := 6) rfl)
theorem e607 : Cond.fieldLink RJ0 38 "java/lang/String" "COMPACT_STRINGS" "Z" ∈ pw := plit_25_in (List.mem_of_getElem? (i := 7) rfl)
theorem e608 : Cond.fieldLink RJ0 15 "java/lang/String" "coder" "B" ∈ pw := plit_25_in (List.mem_of_getElem? (i := 8) rfl)
theorem e609 : Cond.methodLink RJ0 335 yJ0_coder_7d493 ∈ pw := plit_25_in (List.mem_of_getElem? (i := 9) rfl)
theorem e610 : Cond.instanceMethod yJ0_coder_7d493 ∈ pw := plit_25_in (List.mem_of_getElem? (i := 10) rfl)
theorem e611 : Cond.code yJ0_coder_7d493 cJ0_coder_7d493 1 (some .byte) ∈ pw := plit_25_in (List.mem_of_getElem? (i := 11) rfl)
theorem e612 : Cond.selects RJ0 yJ0_coder_7d493 yJ0_coder_7d493 ∈ pw := plit_25_in (List.mem_of_getElem? (i := 12) rfl)
theorem e613 : Cond.methodLink RJ1 88 yJ1_canEncode_9a6ad ∈ pw := plit_25_in (List.mem_of_getElem? (i := 13) rfl)
theorem e614 : Cond.static yJ1_canEncode_9a6ad ∈ pw := plit_25_in (List.mem_of_getElem? (i := 14) rfl)
theorem e615 : Cond.code yJ1_canEncode_9a6ad cJ1_canEncode_9a6ad 1 (some .boolean) ∈ pw := plit_25_in (List.mem_of_getElem? (i := 15) rfl)
theorem e616 : Cond.methodLink RJ1 95 yJ1_indexOfChar_4cfef ∈ pw := plit_25_in (List.mem_of_getElem? (i := 16) rfl)
theorem e617 : Cond.static yJ1_indexOfChar_4cfef ∈ pw := plit_25_in (List.mem_of_getElem? (i := 17) rfl)
theorem e618 : Cond.code yJ1_indexOfChar_4cfef cJ1_indexOfChar_4cfef 6 (some .int) ∈ pw := plit_25_in (List.mem_of_getElem? (i := 18) rfl)
theorem e619 : Cond.sameField "java/util/ArrayList" "java/util/AbstractList" "modCount" "I" ∈ pw := plit_25_in (List.mem_of_getElem? (i := 19) rfl)
theorem pinJx4a65c : ∀ w ∈ u_ws RJx4a65c TJx4a65c 3, w ∈ pw := fun w h => List.mem_append_right _ (List.mem_append_left _ h)
theorem pinX0 : ∀ w ∈ u_ws RX0 TX0 1, w ∈ pw := fun w h => List.mem_append_right _ (List.mem_append_right _ (List.mem_append_left _ h))
theorem pinX1 : ∀ w ∈ u_ws RX1 TX1 13, w ∈ pw := fun w h => List.mem_append_right _ (List.mem_append_right _ (List.mem_append_right _ (List.mem_append_left _ h)))
theorem pinX2 : ∀ w ∈ u_ws RX2 TX2 11, w ∈ pw := fun w h => List.mem_append_right _ (List.mem_append_right _ (List.mem_append_right _ (List.mem_append_right _ (List.mem_append_left _ h))))
theorem pinX3 : ∀ w ∈ u_ws RX3 TX3 9, w ∈ pw := fun w h => List.mem_append_right _ (List.mem_append_right _ (List.mem_append_right _ (List.mem_append_right _ (List.mem_append_right _ (List.mem_append_left _ h)))))
theorem pinX4 : ∀ w ∈ u_ws RX4 TX4 4, w ∈ pw := fun w h => List.mem_append_right _ (List.mem_append_right _ (List.mem_append_right _ (List.mem_append_right _ (List.mem_append_right _ (List.mem_append_right _ (List.mem_append_left _ h))))))
theorem pinX5 : ∀ w ∈ u_ws RX5 TX5 4, w ∈ pw := fun w h => List.mem_append_right _ (List.mem_append_right _ (List.mem_append_right _ (List.mem_append_right _ (List.mem_append_right _ (List.mem_append_right _ (List.mem_append_right _ (List.mem_append_left _ h)))))))
theorem pinX6 : ∀ w ∈ u_ws RX6 TX6 16, w ∈ pw := fun w h => List.mem_append_right _ (List.mem_append_right _ (List.mem_append_right _ (List.mem_append_right _ (List.mem_append_right _ (List.mem_append_right _ (List.mem_append_right _ (List.mem_append_right _ (List.mem_append_left _ h))))))))
theorem pinX7 : ∀ w ∈ u_ws RX7 TX7 2, w ∈ pw := fun w h => List.mem_append_right _ (List.mem_append_right _ (List.mem_append_right _ (List.mem_append_right _ (List.mem_append_right _ (List.mem_append_right _ (List.mem_append_right _ (List.mem_append_right _ (List.mem_append_right _ (List.mem_append_left _ h)))))))))
theorem pinX8 : ∀ w ∈ u_ws RX8 TX8 1, w ∈ pw := fun w h => List.mem_append_right _ (List.mem_append_right _ (List.mem_append_right _ (List.mem_append_right _ (List.mem_append_right _ (List.mem_append_right _ (List.mem_append_right _ (List.mem_append_right _ (List.mem_append_right _ (List.mem_append_right _ (List.mem_append_left _ h))))))))))
theorem pinX9 : ∀ w ∈ u_ws RX9 TX9 4, w ∈ pw := fun w h => List.mem_append_right _ (List.mem_append_right _ (List.mem_append_right _ (List.mem_append_right _ (List.mem_append_right _ (List.mem_append_right _ (List.mem_append_right _ (List.mem_append_right _ (List.mem_append_right _ (List.mem_append_right _ (List.mem_append_right _ (List.mem_append_left _ h)))))))))))
theorem pinX10 : ∀ w ∈ u_ws RX10 TX10 4, w ∈ pw := fun w h => List.mem_append_right _ (List.mem_append_right _ (List.mem_append_right _ (List.mem_append_right _ (List.mem_append_right _ (List.mem_append_right _ (List.mem_append_right _ (List.mem_append_right _ (List.mem_append_right _ (List.mem_append_right _ (List.mem_append_right _ (List.mem_append_right _ (List.mem_append_left _ h))))))))))))
theorem pinX11 : ∀ w ∈ u_ws RX11 TX11 10, w ∈ pw := fun w h => List.mem_append_right _ (List.mem_append_right _ (List.mem_append_right _ (List.mem_append_right _ (List.mem_append_right _ (List.mem_append_right _ (List.mem_append_right _ (List.mem_append_right _ (List.mem_append_right _ (List.mem_append_right _ (List.mem_append_right _ (List.mem_append_right _ (List.mem_append_right _ (List.mem_append_left _ h)))))))))))))
theorem pinX14 : ∀ w ∈ u_ws RX14 TX14 2, w ∈ pw := fun w h => List.mem_append_right _ (List.mem_append_right _ (List.mem_append_right _ (List.mem_append_right _ (List.mem_append_right _ (List.mem_append_right _ (List.mem_append_right _ (List.mem_append_right _ (List.mem_append_right _ (List.mem_append_right _ (List.mem_append_right _ (List.mem_append_right _ (List.mem_append_right _ (List.mem_append_right _ (List.mem_append_left _ h))))))))))))))
theorem pinX17 : ∀ w ∈ u_ws RX17 TX17 31, w ∈ pw := fun w h => List.mem_append_right _ (List.mem_append_right _ (List.mem_append_right _ (List.mem_append_right _ (List.mem_append_right _ (List.mem_append_right _ (List.mem_append_right _ (List.mem_append_right _ (List.mem_append_right _ (List.mem_append_right _ (List.mem_append_right _ (List.mem_append_right _ (List.mem_append_right _ (List.mem_append_right _ (List.mem_append_right _ (h)))))))))))))))
def pnest_0 : List Cond := [Cond.methodLinkNest RX3 17 yX0_init "WordFoundry", Cond.methodLinkNest RX3 33 yX0_set "WordFoundry", Cond.fieldLinkNest RX3 48 "WordFoundry$Dictionary" "size" "I" "WordFoundry", Cond.methodLinkNest RX6 11 yX10_init "WordFoundry", Cond.methodLinkNest RX6 27 yX7_init "WordFoundry", Cond.methodLinkNest RX6 34 yX1_init "WordFoundry", Cond.methodLinkNest RX6 41 yX2_init "WordFoundry", Cond.methodLinkNest RX6 48 yX5_init "WordFoundry", Cond.methodLinkNest RX9 11 yX6_init "WordFoundry", Cond.methodLinkNest RX9 22 yX4_init "WordFoundry", Cond.methodLinkNest RX9 34 yX8_init "WordFoundry", Cond.methodLinkNest RX11 11 yX6_init "WordFoundry", Cond.methodLinkNest RX11 20 yX4_init "WordFoundry", Cond.fieldLinkNest RX11 29 "WordFoundry$Machine" "dictionary" "LWordFoundry$Dictionary;" "WordFoundry", Cond.methodLinkNest RX11 33 yX3_init "WordFoundry", Cond.methodLinkNest RX11 42 yX9_init "WordFoundry", Cond.fieldLinkNest RX11 68 "WordFoundry$Machine" "line" "LWordFoundry$Line;" "WordFoundry", Cond.methodLinkNest RX11 72 yX5_isFull "WordFoundry", Cond.methodLinkNest RX11 83 yX5_add "WordFoundry", Cond.fieldLinkNest RX11 89 "WordFoundry$Machine" "stepCount" "I" "WordFoundry", Cond.methodLinkNest RX11 93 yX5_hasMore "WordFoundry", Cond.methodLinkNest RX11 103 yX5_clear "WordFoundry", Cond.fieldLinkNest RX11 129 "WordFoundry$Machine" "compiling" "Z" "WordFoundry", Cond.fieldLinkNest RX11 154 "WordFoundry$Machine" "first" "LWordFoundry$Stack;" "WordFoundry"]
def pnest_1 : List Cond := [Cond.fieldLinkNest RX11 158 "WordFoundry$Stack" "size" "I" "WordFoundry", Cond.fieldLinkNest RX11 168 "WordFoundry$Machine" "second" "LWordFoundry$Stack;" "WordFoundry", Cond.fieldLinkNest RX11 171 "WordFoundry$Machine" "used" "I" "WordFoundry", Cond.fieldLinkNest RX11 176 "WordFoundry$Machine" "cells" "[I" "WordFoundry", Cond.fieldLinkNest RX11 179 "WordFoundry$Machine" "printed" "LWordFoundry$Printed;" "WordFoundry", Cond.fieldLinkNest RX11 183 "WordFoundry$Printed" "count" "I" "WordFoundry", Cond.fieldLinkNest RX11 190 "WordFoundry$Printed" "numbers" "[I" "WordFoundry", Cond.fieldLinkNest RX11 193 "WordFoundry$Dictionary" "size" "I" "WordFoundry", Cond.methodLinkNest RX11 196 yX1_has "WordFoundry", Cond.fieldLinkNest RX11 202 "WordFoundry$Dictionary" "names" "[I" "WordFoundry", Cond.fieldLinkNest RX11 205 "WordFoundry$Dictionary" "kinds" "[I" "WordFoundry", Cond.fieldLinkNest RX11 208 "WordFoundry$Dictionary" "immediates" "[Z" "WordFoundry", Cond.fieldLinkNest RX11 212 "WordFoundry$Dictionary" "vocabularies" "[I" "WordFoundry", Cond.methodLinkNest RX11 215 yX1_search "WordFoundry", Cond.fieldLinkNest RX11 220 "WordFoundry$Dictionary" "opCounts" "[I" "WordFoundry", Cond.methodLinkNest RX11 223 yX1_hasOp "WordFoundry", Cond.methodLinkNest RX11 236 yX3_measureThrough "WordFoundry", Cond.fieldLinkNest RX11 239 "WordFoundry$Effects" "known" "[Z" "WordFoundry", Cond.fieldLinkNest RX11 250 "WordFoundry$Machine" "draft" "LWordFoundry$Draft;" "WordFoundry", Cond.fieldLinkNest RX11 254 "WordFoundry$Draft" "making" "Z" "WordFoundry", Cond.fieldLinkNest RX11 267 "WordFoundry$SoundCheck" "frames" "LWordFoundry$FrameRunner;" "WordFoundry", Cond.fieldLinkNest RX11 273 "WordFoundry$SoundCheck" "recursion" "LWordFoundry$RecursiveRunner;" "WordFoundry"]
def pnest : List Cond := pnest_0 ++ (pnest_1)
set_option maxRecDepth 100000 in
theorem pnest_0_tbl : ∀ w ∈ pnest_0, w ∈ lw_tbl := p_places _ [515, 523, 309, 233, 255, 271, 346, 395, 563, 565, 568, 227, 490, 424, 509, 558, 432, 1373, 1393, 445, 627, 1082, 450, 417] (by decide +kernel)
set_option maxRecDepth 100000 in
theorem pnest_1_tbl : ∀ w ∈ pnest_1, w ∈ lw_tbl := p_places _ [242, 419, 439, 421, 423, 263, 260, 310, 1512, 276, 283, 287, 278, 1542, 305, 1558, 1140, 529, 430, 360, 579, 582] (by decide +kernel)
theorem pnest_tbl : ∀ w ∈ pnest, w ∈ lw_tbl := List.forall_mem_append.mpr ⟨pnest_0_tbl, pnest_1_tbl⟩
theorem n0 : Cond.methodLinkNest RX3 17 yX0_init "WordFoundry" ∈ pnest := List.mem_append_left _ (List.mem_of_getElem? (i := 0) rfl)
theorem n1 : Cond.methodLinkNest RX3 33 yX0_set "WordFoundry" ∈ pnest := List.mem_append_left _ (List.mem_of_getElem? (i := 1) rfl)
theorem n2 : Cond.fieldLinkNest RX3 48 "WordFoundry$Dictionary" "size" "I" "WordFoundry" ∈ pnest := List.mem_append_left _ (List.mem_of_getElem? (i := 2) rfl)
theorem n3 : Cond.methodLinkNest RX6 11 yX10_init "WordFoundry" ∈ pnest := List.mem_append_left _ (List.mem_of_getElem? (i := 3) rfl)
theorem n4 : Cond.methodLinkNest RX6 27 yX7_init "WordFoundry" ∈ pnest := List.mem_append_left _ (List.mem_of_getElem? (i := 4) rfl)
theorem n5 : Cond.methodLinkNest RX6 34 yX1_init "WordFoundry" ∈ pnest := List.mem_append_left _ (List.mem_of_getElem? (i := 5) rfl)
theorem n6 : Cond.methodLinkNest RX6 41 yX2_init "WordFoundry" ∈ pnest := List.mem_append_left _ (List.mem_of_getElem? (i := 6) rfl)
theorem n7 : Cond.methodLinkNest RX6 48 yX5_init "WordFoundry" ∈ pnest := List.mem_append_left _ (List.mem_of_getElem? (i := 7) rfl)
theorem n8 : Cond.methodLinkNest RX9 11 yX6_init "WordFoundry" ∈ pnest := List.mem_append_left _ (List.mem_of_getElem? (i := 8) rfl)
theorem n9 : Cond.methodLinkNest RX9 22 yX4_init "WordFoundry" ∈ pnest := List.mem_append_left _ (List.mem_of_getElem? (i := 9) rfl)
theorem n10 : Cond.methodLinkNest RX9 34 yX8_init "WordFoundry" ∈ pnest := List.mem_append_left _ (List.mem_of_getElem? (i := 10) rfl)
theorem n11 : Cond.methodLinkNest RX11 11 yX6_init "WordFoundry" ∈ pnest := List.mem_append_left _ (List.mem_of_getElem? (i := 11) rfl)
theorem n12 : Cond.methodLinkNest RX11 20 yX4_init "WordFoundry" ∈ pnest := List.mem_append_left _ (List.mem_of_getElem? (i := 12) rfl)
theorem n13 : Cond.fieldLinkNest RX11 29 "WordFoundry$Machine" "dictionary" "LWordFoundry$Dictionary;" "WordFoundry" ∈ pnest := List.mem_append_left _ (List.mem_of_getElem? (i := 13) rfl)
theorem n14 : Cond.methodLinkNest RX11 33 yX3_init "WordFoundry" ∈ pnest := List.mem_append_left _ (List.mem_of_getElem? (i := 14) rfl)
theorem n15 : Cond.methodLinkNest RX11 42 yX9_init "WordFoundry" ∈ pnest := List.mem_append_left _ (List.mem_of_getElem? (i := 15) rfl)
theorem n16 : Cond.fieldLinkNest RX11 68 "WordFoundry$Machine" "line" "LWordFoundry$Line;" "WordFoundry" ∈ pnest := List.mem_append_left _ (List.mem_of_getElem? (i := 16) rfl)
theorem n17 : Cond.methodLinkNest RX11 72 yX5_isFull "WordFoundry" ∈ pnest := List.mem_append_left _ (List.mem_of_getElem? (i := 17) rfl)
theorem n18 : Cond.methodLinkNest RX11 83 yX5_add "WordFoundry" ∈ pnest := List.mem_append_left _ (List.mem_of_getElem? (i := 18) rfl)
theorem n19 : Cond.fieldLinkNest RX11 89 "WordFoundry$Machine" "stepCount" "I" "WordFoundry" ∈ pnest := List.mem_append_left _ (List.mem_of_getElem? (i := 19) rfl)
theorem n20 : Cond.methodLinkNest RX11 93 yX5_hasMore "WordFoundry" ∈ pnest := List.mem_append_left _ (List.mem_of_getElem? (i := 20) rfl)
theorem n21 : Cond.methodLinkNest RX11 103 yX5_clear "WordFoundry" ∈ pnest := List.mem_append_left _ (List.mem_of_getElem? (i := 21) rfl)
theorem n22 : Cond.fieldLinkNest RX11 129 "WordFoundry$Machine" "compiling" "Z" "WordFoundry" ∈ pnest := List.mem_append_left _ (List.mem_of_getElem? (i := 22) rfl)
theorem n23 : Cond.fieldLinkNest RX11 154 "WordFoundry$Machine" "first" "LWordFoundry$Stack;" "WordFoundry" ∈ pnest := List.mem_append_left _ (List.mem_of_getElem? (i := 23) rfl)
theorem n24 : Cond.fieldLinkNest RX11 158 "WordFoundry$Stack" "size" "I" "WordFoundry" ∈ pnest := List.mem_append_right _ (List.mem_of_getElem? (i := 0) rfl)
theorem n25 : Cond.fieldLinkNest RX11 168 "WordFoundry$Machine" "second" "LWordFoundry$Stack;" "WordFoundry" ∈ pnest := List.mem_append_right _ (List.mem_of_getElem? (i := 1) rfl)
theorem n26 : Cond.fieldLinkNest RX11 171 "WordFoundry$Machine" "used" "I" "WordFoundry" ∈ pnest := List.mem_append_right _ (List.mem_of_getElem? (i := 2) rfl)
theorem n27 : Cond.fieldLinkNest RX11 176 "WordFoundry$Machine" "cells" "[I" "WordFoundry" ∈ pnest := List.mem_append_right _ (List.mem_of_getElem? (i := 3) rfl)
theorem n28 : Cond.fieldLinkNest RX11 179 "WordFoundry$Machine" "printed" "LWordFoundry$Printed;" "WordFoundry" ∈ pnest := List.mem_append_right _ (List.mem_of_getElem? (i := 4) rfl)
theorem n29 : Cond.fieldLinkNest RX11 183 "WordFoundry$Printed" "count" "I" "WordFoundry" ∈ pnest := List.mem_append_right _ (List.mem_of_getElem? (i := 5) rfl)
theorem n30 : Cond.fieldLinkNest RX11 190 "WordFoundry$Printed" "numbers" "[I" "WordFoundry" ∈ pnest := List.mem_append_right _ (List.mem_of_getElem? (i := 6) rfl)
theorem n31 : Cond.fieldLinkNest RX11 193 "WordFoundry$Dictionary" "size" "I" "WordFoundry" ∈ pnest := List.mem_append_right _ (List.mem_of_getElem? (i := 7) rfl)
theorem n32 : Cond.methodLinkNest RX11 196 yX1_has "WordFoundry" ∈ pnest := List.mem_append_right _ (List.mem_of_getElem? (i := 8) rfl)
theorem n33 : Cond.fieldLinkNest RX11 202 "WordFoundry$Dictionary" "names" "[I" "WordFoundry" ∈ pnest := List.mem_append_right _ (List.mem_of_getElem? (i := 9) rfl)
theorem n34 : Cond.fieldLinkNest RX11 205 "WordFoundry$Dictionary" "kinds" "[I" "WordFoundry" ∈ pnest := List.mem_append_right _ (List.mem_of_getElem? (i := 10) rfl)
theorem n35 : Cond.fieldLinkNest RX11 208 "WordFoundry$Dictionary" "immediates" "[Z" "WordFoundry" ∈ pnest := List.mem_append_right _ (List.mem_of_getElem? (i := 11) rfl)
theorem n36 : Cond.fieldLinkNest RX11 212 "WordFoundry$Dictionary" "vocabularies" "[I" "WordFoundry" ∈ pnest := List.mem_append_right _ (List.mem_of_getElem? (i := 12) rfl)
theorem n37 : Cond.methodLinkNest RX11 215 yX1_search "WordFoundry" ∈ pnest := List.mem_append_right _ (List.mem_of_getElem? (i := 13) rfl)
theorem n38 : Cond.fieldLinkNest RX11 220 "WordFoundry$Dictionary" "opCounts" "[I" "WordFoundry" ∈ pnest := List.mem_append_right _ (List.mem_of_getElem? (i := 14) rfl)
theorem n39 : Cond.methodLinkNest RX11 223 yX1_hasOp "WordFoundry" ∈ pnest := List.mem_append_right _ (List.mem_of_getElem? (i := 15) rfl)
theorem n40 : Cond.methodLinkNest RX11 236 yX3_measureThrough "WordFoundry" ∈ pnest := List.mem_append_right _ (List.mem_of_getElem? (i := 16) rfl)
theorem n41 : Cond.fieldLinkNest RX11 239 "WordFoundry$Effects" "known" "[Z" "WordFoundry" ∈ pnest := List.mem_append_right _ (List.mem_of_getElem? (i := 17) rfl)
theorem n42 : Cond.fieldLinkNest RX11 250 "WordFoundry$Machine" "draft" "LWordFoundry$Draft;" "WordFoundry" ∈ pnest := List.mem_append_right _ (List.mem_of_getElem? (i := 18) rfl)
theorem n43 : Cond.fieldLinkNest RX11 254 "WordFoundry$Draft" "making" "Z" "WordFoundry" ∈ pnest := List.mem_append_right _ (List.mem_of_getElem? (i := 19) rfl)
theorem n44 : Cond.fieldLinkNest RX11 267 "WordFoundry$SoundCheck" "frames" "LWordFoundry$FrameRunner;" "WordFoundry" ∈ pnest := List.mem_append_right _ (List.mem_of_getElem? (i := 20) rfl)
theorem n45 : Cond.fieldLinkNest RX11 273 "WordFoundry$SoundCheck" "recursion" "LWordFoundry$RecursiveRunner;" "WordFoundry" ∈ pnest := List.mem_append_right _ (List.mem_of_getElem? (i := 21) rfl)
def isNest : Cond → Bool
  | .fieldLinkNest .. => true
  | .methodLinkNest .. => true
  | _ => false
theorem pnest_is : ∀ w ∈ pnest, isNest w = true := by decide +kernel
theorem pnest_tab : ∀ w ∈ pnest, w.onTables = true := by decide +kernel
def plits : List (String × Nat × String × Nat) := [(RX11, 51, "dpsor+-*/%<=.{}_ha,@#etC]IkWOcKfm:", 0), (RX11, 59, "?~|buwgDLliXxvT['P;", 1), (RX17, 372, "dpsor+-*/%<=.{}_ha,@#etC]IkWOcKfm:", 0), (RX17, 364, "?~|buwgDLlixXvT['P;", 2)]
def plen : List Nat := [34, 19, 19]
def pbyt : List (List Int32) := [[100, 112, 115, 111, 114, 43, 45, 42, 47, 37, 60, 61, 46, 123, 125, 95, 104, 97, 44, 64, 35, 101, 116, 67, 93, 73, 107, 87, 79, 99, 75, 102, 109, 58], [63, 126, 124, 98, 117, 119, 103, 68, 76, 108, 105, 88, 120, 118, 84, 91, 39, 80, 59], [63, 126, 124, 98, 117, 119, 103, 68, 76, 108, 105, 120, 88, 118, 84, 91, 39, 80, 59]]
def pmsgs : List (String × Nat × String) := [(RX11, 63, "there is no such core word"), (RX11, 80, "the line has 40 words"), (RX11, 87, "there is no such name"), (RX11, 146, "the last line had no error"), (RX11, 151, "there is no such running entry"), (RX11, 163, "there is no such number on the stack"), (RX11, 174, "there is no such cell"), (RX11, 188, "there is no such output"), (RX11, 200, "there is no such entry"), (RX11, 218, "the name is not found"), (RX11, 227, "there is no such entry or op"), (RX11, 244, "the entry has no effect")]
end
section
/-! p1: the words, the environment and the worlds' frame of every contract -/
def ws_ (y : MethodName) (c : ByteArray) (n : Nat) (r : Option FieldType) : List Cond := Cond.code y c n r :: pw
theorem ws_good {y : MethodName} {c : ByteArray} {n : Nat} {r : Option FieldType} (h : Cond.code y c n r ∈ pw) : GoodIn pw (ws_ y c n r) := by
  intro w hw
  rcases List.mem_cons.mp hw with e | hm
  · rw [e]
    exact ⟨h, good_of_word (pw_good _ h)⟩
  · exact ⟨hm, good_of_word (pw_good _ hm)⟩
theorem pw_gw {w : Cond} (h : w ∈ pw) : w ∈ pw ∧ ((w.onTables && w.keeps) = true ∨ ∃ ty, w = .arrayClass ty) := ⟨h, good_of_word (pw_good _ h)⟩
theorem ws_goodV {own : String} {i : Nat} {C : String} {y : MethodName} {c : ByteArray} {n : Nat} {r : Option FieldType} (h1 : Cond.methodLink own i y ∈ pw) (h2 : Cond.instanceMethod y ∈ pw) (h3 : Cond.selects C y y ∈ pw) (h4 : Cond.initialized C ∈ pw) (h5 : Cond.code y c n r ∈ pw) : GoodIn pw (wsV own i C y (ws_ y c n r)) := by
  intro w hw
  rcases List.mem_append.mp hw with h | h
  · rcases List.mem_cons.mp h with e | h
    · rw [e]; exact pw_gw h1
    · rcases List.mem_cons.mp h with e | h
      · rw [e]; exact pw_gw h2
      · rcases List.mem_cons.mp h with e | h
        · rw [e]; exact pw_gw h3
        · rcases List.mem_cons.mp h with e | h
          · rw [e]; exact pw_gw h4
          · exact absurd h List.not_mem_nil
  · exact ws_good h5 w h
theorem ws_goodS {own : String} {i : Nat} {y : MethodName} {c : ByteArray} {n : Nat} {r : Option FieldType} (h1 : Cond.methodLink own i y ∈ pw) (h2 : Cond.static y ∈ pw) (h4 : Cond.initialized y.cls ∈ pw) (h5 : Cond.code y c n r ∈ pw) : GoodIn pw (va_wsS own i y (ws_ y c n r)) := by
  intro w hw
  rcases List.mem_append.mp hw with h | h
  · rcases List.mem_cons.mp h with e | h
    · rw [e]; exact pw_gw h1
    · rcases List.mem_cons.mp h with e | h
      · rw [e]; exact pw_gw h2
      · rcases List.mem_cons.mp h with e | h
        · rw [e]; exact pw_gw h4
        · exact absurd h List.not_mem_nil
  · exact ws_good h5 w h
/-- the static empty array's cell; the literals' cells and their byte arrays' -/
abbrev pG : Type := Nat × (Nat → Nat) × (Nat → Nat)
def pe_N (U : State) : Prop := ∀ w ∈ pnest, va_Nw w U
theorem pe_N.same {u U : State} (h : u.vm = U.vm) (hN : pe_N u) : pe_N U := fun w hw => va_Nw.same (pnest_tab w hw) h (hN w hw)
theorem pe_N.warm {s U : State} (hW : s.WarmedH U.vm) (hN : pe_N s) : pe_N U := by
  intro w hw
  have h1 := hN w hw
  have h2 := pnest_is w hw
  cases w
  all_goals first | exact va_Nw.warmF hW h1 | exact va_Nw.warmM hW h1 | exact absurd h2 (by intro h; cases h)
/-- what every method may ask of the machine beside its own world: links between nest mates, the statics that a throw reads, the empty array of the lists, the literals -/
def pe (z : pG) (A : Nat → Prop) (U : State) (H : Heap) : Prop :=
  pe_N U ∧ vx_Zq Bundle.tN "UNASSIGNED_STACK" Bundle.steD A U H ∧ vx_Zq Bundle.tN "SUPPRESSED_SENTINEL" Bundle.listD A U H ∧ va_Z RJx4a65c "DEFAULTCAPACITY_EMPTY_ELEMENTDATA" "[Ljava/lang/Object;" (.ref z.1) A U H ∧ va_T (.object "java/lang/Object") z.1 0 (fun _ => .null) A U H ∧ va_Z RJ0 "COMPACT_STRINGS" "Z" (.int 1) A U H ∧ vk_S 3 plen pbyt z.2.1 z.2.2 A U H ∧ (∀ (i : Nat) (q : String × Nat × String × Nat), plits[i]? = some q → vk_R q.1 q.2.1 q.2.2.1 (z.2.1 q.2.2.2) U) ∧ (∀ q ∈ pmsgs, ∃ a, vk_R q.1 q.2.1 q.2.2 a U) ∧ va_AO "java/lang/Object" U ∧ va_Nw (.castable RX14 "java/lang/Object") U
theorem pe.call {z : pG} {A B : Nat → Prop} {s U : State} {H : Heap} {locs : List Loc} (hE : pe z A s s.heap) (hS : va_S A s.heap H locs) (hF : ∀ q, B q → A q) (hU : U.heap = H) (hW : s.WarmedH U.vm) : pe z B U U.heap := by
  obtain ⟨h1, h2, h3, h4, h5, h6, h7, h8, h9, h10, h11⟩ := hE
  have hv : s.vm.Alike U.vm := hW.alike
  have hk : ∀ a : Nat, a < s.heap.size → ¬ A a → U.heap[a]? = s.heap[a]? := fun a q r => by rw [hU]; exact hS.2.1 a q r
  exact ⟨h1.warm hW, ((h2.moved hv).kept hk).narrow hF, ((h3.moved hv).kept hk).narrow hF, ((h4.moved hv).kept hk).narrow hF, ((h5.moved hv).kept hk).narrow hF, ((h6.moved hv).kept hk).narrow hF, ((h7.moved hv).kept hk).narrow hF, fun i q hq => (h8 i q hq).warm hW, fun q hq => (h9 q hq).imp fun a ha => ha.warm hW, h10.moved hv, va_Nw.warmC hW h11⟩
theorem pe.blind {z : pG} {A : Nat → Prop} {U : State} (g : JFrame) (mk : MethodId) (a : Array Value) (hE : pe z A U U.heap) : pe z A (U.calling g mk a) (U.calling g mk a).heap := by
  obtain ⟨h1, h2, h3, h4, h5, h6, h7, h8, h9, h10, h11⟩ := hE
  have hv : U.vm.Alike (U.calling g mk a).vm := Vm.Alike.refl U.vm
  have hq : U.vm = (U.calling g mk a).vm := rfl
  exact ⟨h1.same hq, h2.moved hv, h3.moved hv, h4.moved hv, h5.moved hv, h6.moved hv, h7.moved hv, fun i q h => (h8 i q h).same hq.symm, fun q h => (h9 q h).imp fun a ha => ha.same hq.symm, h10.moved hv, va_Nw.same rfl hq h11⟩
def pPre (z : pG) (dC : Nat → ClassId) (dI : Nat → Nat → Nat) (ws : va_W) (tys : List (ClassId × FieldType)) (sz : Nat) (U : State) : Prop :=
  U.heap.size = sz ∧ va_P (dC, dI) pcl ws U.heap ∧ va_K (dC, dI) pcl tys U ∧ va_D (fun _ => True) ws ∧ pe z (va_A ws sz) U U.heap
def pPost (dC : Nat → ClassId) (dI : Nat → Nat → Nat) (A : Nat → Prop) (ws : va_W) (tys : List (ClassId × FieldType)) (t : State) : Prop :=
  va_P (dC, dI) pcl ws t.heap ∧ va_K (dC, dI) pcl tys t ∧ va_D A ws
theorem pPre_blind {z : pG} {dC : Nat → ClassId} {dI : Nat → Nat → Nat} {ws : va_W} {tys : List (ClassId × FieldType)} {sz : Nat} {av : List Value} : FrameBlind (va_Pc av (pPre z dC dI ws tys sz)) :=
  fun a U g mk q => by
    obtain ⟨q0, q1, qP, qK, qD, qE⟩ := q
    exact ⟨q0, q1, qP, va_K.moved (u := U) (U := U.calling g mk a) (Vm.Alike.refl U.vm) qK, qD, qE.blind g mk a⟩
theorem pPre_at {z : pG} {dC : Nat → ClassId} {dI : Nat → Nat → Nat} {wc : va_W} {tys : List (ClassId × FieldType)} {A : Nat → Prop} {s : State} {H : Heap} {locs : List Loc} (hP : va_P (dC, dI) pcl wc H) (hK : va_K (dC, dI) pcl tys s) (hD : va_D A wc) (hE : pe z A s s.heap) (hS : va_S A s.heap H locs) (hF : ∀ q, va_A wc H.size q → A q) : ∀ U : State, U.heap = H → s.WarmedH U.vm → pPre z dC dI wc tys H.size U :=
  fun U hU hW => ⟨by rw [hU], by rw [hU]; exact hP, va_K.moved hW.alike hK, hD.weaken (fun _ _ _ _ => trivial), hE.call hS hF hU hW⟩
end
section
set_option maxHeartbeats 4000000 in
set_option maxRecDepth 100000 in
theorem c_X0_init (l : Launch) (dC : Nat → ClassId) (dI : Nat → Nat → Nat) (z : pG) (h0 : Nat) (sz : Nat) : Met l yX0_init (ws_ yX0_init cX0_init 1 none) ({ frames := 1, cells := 1, slots := 864, locals := 12 }) (va_Pc [.ref h0] (pPre z dC dI [(h0, .inr (1, [.null]))] [] sz)) (va_Qv (fun (_ : Unit) => True) (fun _ t => ∃ (a1 : Nat) (cB : ClassId), pPost dC dI (va_A [(h0, .inr (1, [.null]))] sz) [(h0, .inr (1, [.ref a1])), (a1, .inl (cB, 864, .inl (fun _ => 0)))] [(cB, .int)] t) (va_A [(h0, .inr (1, [.null]))] sz)) 1 864 (va_A [(h0, .inr (1, [.null]))] sz) := by
  refine Met.ofW (cc := cX0_init) (maxL := 1) (ret := none) (by decide) rfl ?_
  intro p e s m args below meth c s₁ B hml hv
  obtain ⟨rfl, hsz, hP, hK, hD0, hE⟩ := hv
  have hx := B.exec
  have hb := B.bytes
  have hr := B.returns
  have hts0 := atoms_spec (ws := ws_ yX0_init cX0_init 1 none) B.pre
  have hts := fun (w : Cond) (h : w ∈ pw) => hts0 w (List.mem_cons_of_mem _ h)
  have hown : s.vm.findClass RX0 = some m.cls := findClass_of_methodNamed B.named
  have hlocks := B.notSynchronized
  have hin : meth.name = "<init>" := (name_of_methodNamed B.named B.method).1
  subst hsz
  have hD := hD0.self (sz := s.heap.size)
  generalize hAe : va_A [(h0, .inr (1, [.null]))] s.heap.size = A at hD hE ⊢
  have hA : ∀ q : Nat, s.heap.size ≤ q → A q := fun q h => by rw [← hAe]; exact Or.inr h
  have hS : va_S A s.heap s.heap [] := va_S.rf
  have hN := hE.1
  have hP : va_P (dC, dI) pcl [(h0, .inr (1, [.null]))] s.heap := hP
  have hl := lv_entry ([.ref h0]) (n := 1) (Nat.le_of_ble_eq_true rfl)
  rw [lg_entry_eq]
  generalize (lg_sl ([.ref h0]) ++ List.replicate (1 - (lg_sl ([.ref h0])).length) Slot.unset).toArray = ls at hl ⊢
  have hl : lv_has ls 1 [(0, .ref h0)] := hl
  obtain ⟨H, hH0⟩ : ∃ H, H = s.heap := ⟨_, rfl⟩
  rw [← hH0] at hP ⊢
  have hS : va_S A s.heap H [] := by rw [hH0]; exact hS
  refine lv_aload_n hx hb dX0_init_0 rfl (lv_at hl 0 rfl) ?_
  refine W.objInit hx hb hown (hts _ e0) (hts _ e1) (hts _ e2) rfl (by rw [hml]; exact hl.1) rfl dX0_init_1 (Nat.le_of_ble_eq_true rfl) (Nat.le_of_ble_eq_true rfl) ?_
  refine W.eq (g2 := F0 m 4 ls []) rfl ?_
  refine lv_aload_n hx hb dX0_init_4 rfl (lv_at hl 0 rfl) ?_
  refine lv_sipush (v := 864) hx hb dX0_init_5 (by decide) ?_
  refine va_newa (atype := .int) (N' := 864) (a0 := (864, .inl (fun _ => 0))) hx hb (hts _ e3) rfl hK hP hD hS hA (fun _ => rfl) (by decide) (by decide) (Nat.le_of_ble_eq_true rfl) (Nat.le_of_ble_eq_true rfl) (Nat.le_of_ble_eq_true rfl) dX0_init_8 (fun q1 cA2 H hK hP hD hS => ?_)
  have hP : va_P (dC, dI) pcl [(h0, .inr (1, [.null])), (q1, .inl (cA2, 864, .inl (fun _ => 0)))] H := hP
  have hD : va_D A [(h0, .inr (1, [.null])), (q1, .inl (cA2, 864, .inl (fun _ => 0)))] := hD
  have hK : va_K (dC, dI) pcl [(cA2, .int)] s := hK
  refine W.widen (k := 1) (n := 864) (Nat.le_of_ble_eq_true rfl) (Nat.le_of_ble_eq_true rfl) ?_
  refine va_putF (D := (dC, dI)) (ci := 1) (v := .ref q1) (ty := .array .int) (C := RX0) (T := TX0) (N := 1) hx hb hts pinX0 tyX0 tyX0_ok nmX0 hown hK hP hD hS 0 rfl rfl 0 (by decide) (hts _ e4) (fun _ h9 => h9) rfl hin rfl (by decide +kernel) rfl rfl (Nat.le_of_ble_eq_true rfl) dX0_init_10 (fun H locs hP hD hS => ?_)
  have hP : va_P (dC, dI) pcl [(h0, .inr (1, [.ref q1])), (q1, .inl (cA2, 864, .inl (fun _ => 0)))] H := hP
  have hD : va_D A [(h0, .inr (1, [.ref q1])), (q1, .inl (cA2, 864, .inl (fun _ => 0)))] := hD
  have hP9 := hP.sub (ws' := [(h0, .inr (1, [.ref q1])), (q1, .inl (cA2, 864, .inl (fun _ => 0)))]) [0, 1] rfl
  have hD9 := hD.sub (ws' := [(h0, .inr (1, [.ref q1])), (q1, .inl (cA2, 864, .inl (fun _ => 0)))]) [0, 1] (by decide) rfl
  have hK9 := hK.sub (tys' := [(cA2, .int)]) [0] rfl
  refine W.widen (k := 1) (n := 864) (Nat.le_of_ble_eq_true rfl) (Nat.le_of_ble_eq_true rfl) ?_
  exact W.vret hx hb hr (fun t ht hW => ⟨⟨(), rfl, trivial, q1, cA2, by rw [ht]; exact hP9, va_K.moved hW.alike hK9, hD9⟩, hS.F ht⟩) hS.2.2 dX0_init_13
set_option maxHeartbeats 4000000 in
set_option maxRecDepth 100000 in
theorem c_X7_init (l : Launch) (dC : Nat → ClassId) (dI : Nat → Nat → Nat) (z : pG) (h0 : Nat) (sz : Nat) : Met l yX7_init (ws_ yX7_init cX7_init 1 none) ({ frames := 1, cells := 1, slots := 160, locals := 12 }) (va_Pc [.ref h0] (pPre z dC dI [(h0, .inr (8, [.null, .int 0]))] [] sz)) (va_Qv (fun (_ : Unit) => True) (fun _ t => ∃ (a1 : Nat), pPost dC dI (va_A [(h0, .inr (8, [.null, .int 0]))] sz) [(h0, .inr (8, [.ref a1, .int 0]))] [] t) (va_A [(h0, .inr (8, [.null, .int 0]))] sz)) 1 160 (va_A [(h0, .inr (8, [.null, .int 0]))] sz) := by
  refine Met.ofW (cc := cX7_init) (maxL := 1) (ret := none) (by decide) rfl ?_
  intro p e s m args below meth c s₁ B hml hv
  obtain ⟨rfl, hsz, hP, hK, hD0, hE⟩ := hv
  have hx := B.exec
  have hb := B.bytes
  have hr := B.returns
  have hts0 := atoms_spec (ws := ws_ yX7_init cX7_init 1 none) B.pre
  have hts := fun (w : Cond) (h : w ∈ pw) => hts0 w (List.mem_cons_of_mem _ h)
  have hown : s.vm.findClass RX7 = some m.cls := findClass_of_methodNamed B.named
  have hlocks := B.notSynchronized
  have hin : meth.name = "<init>" := (name_of_methodNamed B.named B.method).1
  subst hsz
  have hD := hD0.self (sz := s.heap.size)
  generalize hAe : va_A [(h0, .inr (8, [.null, .int 0]))] s.heap.size = A at hD hE ⊢
  have hA : ∀ q : Nat, s.heap.size ≤ q → A q := fun q h => by rw [← hAe]; exact Or.inr h
  have hS : va_S A s.heap s.heap [] := va_S.rf
  have hN := hE.1
  have hP : va_P (dC, dI) pcl [(h0, .inr (8, [.null, .int 0]))] s.heap := hP
  have hl := lv_entry ([.ref h0]) (n := 1) (Nat.le_of_ble_eq_true rfl)
  rw [lg_entry_eq]
  generalize (lg_sl ([.ref h0]) ++ List.replicate (1 - (lg_sl ([.ref h0])).length) Slot.unset).toArray = ls at hl ⊢
  have hl : lv_has ls 1 [(0, .ref h0)] := hl
  obtain ⟨H, hH0⟩ : ∃ H, H = s.heap := ⟨_, rfl⟩
  rw [← hH0] at hP ⊢
  have hS : va_S A s.heap H [] := by rw [hH0]; exact hS
  refine lv_aload_n hx hb dX7_init_0 rfl (lv_at hl 0 rfl) ?_
  refine W.objInit hx hb hown (hts _ e90) (hts _ e1) (hts _ e2) rfl (by rw [hml]; exact hl.1) rfl dX7_init_1 (Nat.le_of_ble_eq_true rfl) (Nat.le_of_ble_eq_true rfl) ?_
  refine W.eq (g2 := F0 m 4 ls []) rfl ?_
  refine lv_aload_n hx hb dX7_init_4 rfl (lv_at hl 0 rfl) ?_
  refine lv_sipush (v := 160) hx hb dX7_init_5 (by decide) ?_
  refine va_newa (atype := .int) (N' := 160) (a0 := (160, .inl (fun _ => 0))) hx hb (hts _ e3) rfl hK hP hD hS hA (fun _ => rfl) (by decide) (by decide) (Nat.le_of_ble_eq_true rfl) (Nat.le_of_ble_eq_true rfl) (Nat.le_of_ble_eq_true rfl) dX7_init_8 (fun q1 cA2 H hK hP hD hS => ?_)
  have hP : va_P (dC, dI) pcl [(h0, .inr (8, [.null, .int 0])), (q1, .inl (cA2, 160, .inl (fun _ => 0)))] H := hP
  have hD : va_D A [(h0, .inr (8, [.null, .int 0])), (q1, .inl (cA2, 160, .inl (fun _ => 0)))] := hD
  have hK : va_K (dC, dI) pcl [(cA2, .int)] s := hK
  refine W.widen (k := 1) (n := 160) (Nat.le_of_ble_eq_true rfl) (Nat.le_of_ble_eq_true rfl) ?_
  refine va_put (D := (dC, dI)) (ci := 8) (v := .ref q1) (ty := .array .int) (C := RX7) (T := TX7) (N := 2) hx hb hts pinX7 tyX7 tyX7_ok nmX7 hown hK hP hD hS 0 rfl rfl 0 (by decide) (hts _ e91) (fun _ h9 => h9) rfl (by decide +kernel) rfl rfl (Nat.le_of_ble_eq_true rfl) dX7_init_10 (fun H locs hP hD hS => ?_)
  have hP : va_P (dC, dI) pcl [(h0, .inr (8, [.ref q1, .int 0])), (q1, .inl (cA2, 160, .inl (fun _ => 0)))] H := hP
  have hD : va_D A [(h0, .inr (8, [.ref q1, .int 0])), (q1, .inl (cA2, 160, .inl (fun _ => 0)))] := hD
  have hP9 := hP.sub (ws' := [(h0, .inr (8, [.ref q1, .int 0]))]) [0] rfl
  have hD9 := hD.sub (ws' := [(h0, .inr (8, [.ref q1, .int 0]))]) [0] (by decide) rfl
  have hK9 := hK.sub (tys' := []) [] rfl
  refine W.widen (k := 1) (n := 160) (Nat.le_of_ble_eq_true rfl) (Nat.le_of_ble_eq_true rfl) ?_
  exact W.vret hx hb hr (fun t ht hW => ⟨⟨(), rfl, trivial, q1, by rw [ht]; exact hP9, va_K.moved hW.alike hK9, hD9⟩, hS.F ht⟩) hS.2.2 dX7_init_13
set_option maxHeartbeats 4000000 in
set_option maxRecDepth 100000 in
theorem c_X10_init (l : Launch) (dC : Nat → ClassId) (dI : Nat → Nat → Nat) (z : pG) (h0 : Nat) (sz : Nat) : Met l yX10_init (ws_ yX10_init cX10_init 1 none) ({ frames := 1, cells := 3, slots := 1311, locals := 12 }) (va_Pc [.ref h0] (pPre z dC dI [(h0, .inr (11, [.null, .null, .null, .int 0]))] [] sz)) (va_Qv (fun (_ : Unit) => True) (fun _ t => ∃ (a1 : Nat) (a2 : Nat) (a3 : Nat), pPost dC dI (va_A [(h0, .inr (11, [.null, .null, .null, .int 0]))] sz) [(h0, .inr (11, [.ref a1, .ref a2, .ref a3, .int 0]))] [] t) (va_A [(h0, .inr (11, [.null, .null, .null, .int 0]))] sz)) 3 1311 (va_A [(h0, .inr (11, [.null, .null, .null, .int 0]))] sz) := by
  refine Met.ofW (cc := cX10_init) (maxL := 1) (ret := none) (by decide) rfl ?_
  intro p e s m args below meth c s₁ B hml hv
  obtain ⟨rfl, hsz, hP, hK, hD0, hE⟩ := hv
  have hx := B.exec
  have hb := B.bytes
  have hr := B.returns
  have hts0 := atoms_spec (ws := ws_ yX10_init cX10_init 1 none) B.pre
  have hts := fun (w : Cond) (h : w ∈ pw) => hts0 w (List.mem_cons_of_mem _ h)
  have hown : s.vm.findClass RX10 = some m.cls := findClass_of_methodNamed B.named
  have hlocks := B.notSynchronized
  have hin : meth.name = "<init>" := (name_of_methodNamed B.named B.method).1
  subst hsz
  have hD := hD0.self (sz := s.heap.size)
  generalize hAe : va_A [(h0, .inr (11, [.null, .null, .null, .int 0]))] s.heap.size = A at hD hE ⊢
  have hA : ∀ q : Nat, s.heap.size ≤ q → A q := fun q h => by rw [← hAe]; exact Or.inr h
  have hS : va_S A s.heap s.heap [] := va_S.rf
  have hN := hE.1
  have hP : va_P (dC, dI) pcl [(h0, .inr (11, [.null, .null, .null, .int 0]))] s.heap := hP
  have hl := lv_entry ([.ref h0]) (n := 1) (Nat.le_of_ble_eq_true rfl)
  rw [lg_entry_eq]
  generalize (lg_sl ([.ref h0]) ++ List.replicate (1 - (lg_sl ([.ref h0])).length) Slot.unset).toArray = ls at hl ⊢
  have hl : lv_has ls 1 [(0, .ref h0)] := hl
  obtain ⟨H, hH0⟩ : ∃ H, H = s.heap := ⟨_, rfl⟩
  rw [← hH0] at hP ⊢
  have hS : va_S A s.heap H [] := by rw [hH0]; exact hS
  refine lv_aload_n hx hb dX10_init_0 rfl (lv_at hl 0 rfl) ?_
  refine W.objInit hx hb hown (hts _ e114) (hts _ e1) (hts _ e2) rfl (by rw [hml]; exact hl.1) rfl dX10_init_1 (Nat.le_of_ble_eq_true rfl) (Nat.le_of_ble_eq_true rfl) ?_
  refine W.eq (g2 := F0 m 4 ls []) rfl ?_
  refine lv_aload_n hx hb dX10_init_4 rfl (lv_at hl 0 rfl) ?_
  refine lv_bipush (v := 40) hx hb dX10_init_5 (by decide) ?_
  refine va_newa (atype := .int) (N' := 40) (a0 := (40, .inl (fun _ => 0))) hx hb (hts _ e3) rfl hK hP hD hS hA (fun _ => rfl) (by decide) (by decide) (Nat.le_of_ble_eq_true rfl) (Nat.le_of_ble_eq_true rfl) (Nat.le_of_ble_eq_true rfl) dX10_init_7 (fun q1 cA2 H hK hP hD hS => ?_)
  have hP : va_P (dC, dI) pcl [(h0, .inr (11, [.null, .null, .null, .int 0])), (q1, .inl (cA2, 40, .inl (fun _ => 0)))] H := hP
  have hD : va_D A [(h0, .inr (11, [.null, .null, .null, .int 0])), (q1, .inl (cA2, 40, .inl (fun _ => 0)))] := hD
  have hK : va_K (dC, dI) pcl [(cA2, .int)] s := hK
  refine W.widen (k := 1) (n := 40) (Nat.le_of_ble_eq_true rfl) (Nat.le_of_ble_eq_true rfl) ?_
  refine va_putF (D := (dC, dI)) (ci := 11) (v := .ref q1) (ty := .array .int) (C := RX10) (T := TX10) (N := 4) hx hb hts pinX10 tyX10 tyX10_ok nmX10 hown hK hP hD hS 0 rfl rfl 0 (by decide) (hts _ e115) (fun _ h9 => h9) rfl hin rfl (by decide +kernel) rfl rfl (Nat.le_of_ble_eq_true rfl) dX10_init_9 (fun H locs hP hD hS => ?_)
  have hP : va_P (dC, dI) pcl [(h0, .inr (11, [.ref q1, .null, .null, .int 0])), (q1, .inl (cA2, 40, .inl (fun _ => 0)))] H := hP
  have hD : va_D A [(h0, .inr (11, [.ref q1, .null, .null, .int 0])), (q1, .inl (cA2, 40, .inl (fun _ => 0)))] := hD
  refine lv_aload_n hx hb dX10_init_12 rfl (lv_at hl 0 rfl) ?_
  refine lv_sipush (v := 1240) hx hb dX10_init_13 (by decide) ?_
  refine va_newa (atype := .int) (N' := 1240) (a0 := (1240, .inl (fun _ => 0))) hx hb (hts _ e3) rfl hK hP hD hS hA (fun _ => rfl) (by decide) (by decide) (Nat.le_of_ble_eq_true rfl) (Nat.le_of_ble_eq_true rfl) (Nat.le_of_ble_eq_true rfl) dX10_init_16 (fun q3 cA4 H hK hP hD hS => ?_)
  have hP : va_P (dC, dI) pcl [(h0, .inr (11, [.ref q1, .null, .null, .int 0])), (q1, .inl (cA2, 40, .inl (fun _ => 0))), (q3, .inl (cA4, 1240, .inl (fun _ => 0)))] H := hP
  have hD : va_D A [(h0, .inr (11, [.ref q1, .null, .null, .int 0])), (q1, .inl (cA2, 40, .inl (fun _ => 0))), (q3, .inl (cA4, 1240, .inl (fun _ => 0)))] := hD
  have hK : va_K (dC, dI) pcl [(cA2, .int), (cA4, .int)] s := hK
  refine W.widen (k := 2) (n := 1280) (Nat.le_of_ble_eq_true rfl) (Nat.le_of_ble_eq_true rfl) ?_
  refine va_putF (D := (dC, dI)) (ci := 11) (v := .ref q3) (ty := .array .int) (C := RX10) (T := TX10) (N := 4) hx hb hts pinX10 tyX10 tyX10_ok nmX10 hown hK hP hD hS 0 rfl rfl 1 (by decide) (hts _ e116) (fun _ h9 => h9) rfl hin rfl (by decide +kernel) rfl rfl (Nat.le_of_ble_eq_true rfl) dX10_init_18 (fun H locs hP hD hS => ?_)
  have hP : va_P (dC, dI) pcl [(h0, .inr (11, [.ref q1, .ref q3, .null, .int 0])), (q1, .inl (cA2, 40, .inl (fun _ => 0))), (q3, .inl (cA4, 1240, .inl (fun _ => 0)))] H := hP
  have hD : va_D A [(h0, .inr (11, [.ref q1, .ref q3, .null, .int 0])), (q1, .inl (cA2, 40, .inl (fun _ => 0))), (q3, .inl (cA4, 1240, .inl (fun _ => 0)))] := hD
  refine lv_aload_n hx hb dX10_init_21 rfl (lv_at hl 0 rfl) ?_
  refine lv_bipush (v := 31) hx hb dX10_init_22 (by decide) ?_
  refine va_newa (atype := .int) (N' := 31) (a0 := (31, .inl (fun _ => 0))) hx hb (hts _ e3) rfl hK hP hD hS hA (fun _ => rfl) (by decide) (by decide) (Nat.le_of_ble_eq_true rfl) (Nat.le_of_ble_eq_true rfl) (Nat.le_of_ble_eq_true rfl) dX10_init_24 (fun q5 cA6 H hK hP hD hS => ?_)
  have hP : va_P (dC, dI) pcl [(h0, .inr (11, [.ref q1, .ref q3, .null, .int 0])), (q1, .inl (cA2, 40, .inl (fun _ => 0))), (q3, .inl (cA4, 1240, .inl (fun _ => 0))), (q5, .inl (cA6, 31, .inl (fun _ => 0)))] H := hP
  have hD : va_D A [(h0, .inr (11, [.ref q1, .ref q3, .null, .int 0])), (q1, .inl (cA2, 40, .inl (fun _ => 0))), (q3, .inl (cA4, 1240, .inl (fun _ => 0))), (q5, .inl (cA6, 31, .inl (fun _ => 0)))] := hD
  have hK : va_K (dC, dI) pcl [(cA2, .int), (cA4, .int), (cA6, .int)] s := hK
  refine W.widen (k := 3) (n := 1311) (Nat.le_of_ble_eq_true rfl) (Nat.le_of_ble_eq_true rfl) ?_
  refine va_putF (D := (dC, dI)) (ci := 11) (v := .ref q5) (ty := .array .int) (C := RX10) (T := TX10) (N := 4) hx hb hts pinX10 tyX10 tyX10_ok nmX10 hown hK hP hD hS 0 rfl rfl 2 (by decide) (hts _ e117) (fun _ h9 => h9) rfl hin rfl (by decide +kernel) rfl rfl (Nat.le_of_ble_eq_true rfl) dX10_init_26 (fun H locs hP hD hS => ?_)
  have hP : va_P (dC, dI) pcl [(h0, .inr (11, [.ref q1, .ref q3, .ref q5, .int 0])), (q1, .inl (cA2, 40, .inl (fun _ => 0))), (q3, .inl (cA4, 1240, .inl (fun _ => 0))), (q5, .inl (cA6, 31, .inl (fun _ => 0)))] H := hP
  have hD : va_D A [(h0, .inr (11, [.ref q1, .ref q3, .ref q5, .int 0])), (q1, .inl (cA2, 40, .inl (fun _ => 0))), (q3, .inl (cA4, 1240, .inl (fun _ => 0))), (q5, .inl (cA6, 31, .inl (fun _ => 0)))] := hD
  have hP9 := hP.sub (ws' := [(h0, .inr (11, [.ref q1, .ref q3, .ref q5, .int 0]))]) [0] rfl
  have hD9 := hD.sub (ws' := [(h0, .inr (11, [.ref q1, .ref q3, .ref q5, .int 0]))]) [0] (by decide) rfl
  have hK9 := hK.sub (tys' := []) [] rfl
  refine W.widen (k := 3) (n := 1311) (Nat.le_of_ble_eq_true rfl) (Nat.le_of_ble_eq_true rfl) ?_
  exact W.vret hx hb hr (fun t ht hW => ⟨⟨(), rfl, trivial, q1, q3, q5, by rw [ht]; exact hP9, va_K.moved hW.alike hK9, hD9⟩, hS.F ht⟩) hS.2.2 dX10_init_29
set_option maxHeartbeats 4000000 in
set_option maxRecDepth 100000 in
theorem c_X1_init (l : Launch) (dC : Nat → ClassId) (dI : Nat → Nat → Nat) (z : pG) (h0 : Nat) (sz : Nat) : Met l yX1_init (ws_ yX1_init cX1_init 1 none) ({ frames := 1, cells := 10, slots := 2640, locals := 12 }) (va_Pc [.ref h0] (pPre z dC dI [(h0, .inr (2, [.null, .null, .null, .null, .null, .null, .null, .null, .null, .null, .int 0, .int 0, .int 0]))] [] sz)) (va_Qv (fun (_ : Unit) => True) (fun _ t => ∃ (a1 : Nat) (a2 : Nat) (a3 : Nat) (a4 : Nat) (a5 : Nat) (a6 : Nat) (a7 : Nat) (a8 : Nat) (a9 : Nat) (a10 : Nat), pPost dC dI (va_A [(h0, .inr (2, [.null, .null, .null, .null, .null, .null, .null, .null, .null, .null, .int 0, .int 0, .int 0]))] sz) [(h0, .inr (2, [.ref a1, .ref a2, .ref a3, .ref a4, .ref a5, .ref a6, .ref a7, .ref a8, .ref a9, .ref a10, .int 0, .int 0, .int 0]))] [] t) (va_A [(h0, .inr (2, [.null, .null, .null, .null, .null, .null, .null, .null, .null, .null, .int 0, .int 0, .int 0]))] sz)) 10 2640 (va_A [(h0, .inr (2, [.null, .null, .null, .null, .null, .null, .null, .null, .null, .null, .int 0, .int 0, .int 0]))] sz) := by
  refine Met.ofW (cc := cX1_init) (maxL := 1) (ret := none) (by decide) rfl ?_
  intro p e s m args below meth c s₁ B hml hv
  obtain ⟨rfl, hsz, hP, hK, hD0, hE⟩ := hv
  have hx := B.exec
  have hb := B.bytes
  have hr := B.returns
  have hts0 := atoms_spec (ws := ws_ yX1_init cX1_init 1 none) B.pre
  have hts := fun (w : Cond) (h : w ∈ pw) => hts0 w (List.mem_cons_of_mem _ h)
  have hown : s.vm.findClass RX1 = some m.cls := findClass_of_methodNamed B.named
  have hlocks := B.notSynchronized
  have hin : meth.name = "<init>" := (name_of_methodNamed B.named B.method).1
  subst hsz
  have hD := hD0.self (sz := s.heap.size)
  generalize hAe : va_A [(h0, .inr (2, [.null, .null, .null, .null, .null, .null, .null, .null, .null, .null, .int 0, .int 0, .int 0]))] s.heap.size = A at hD hE ⊢
  have hA : ∀ q : Nat, s.heap.size ≤ q → A q := fun q h => by rw [← hAe]; exact Or.inr h
  have hS : va_S A s.heap s.heap [] := va_S.rf
  have hN := hE.1
  have hP : va_P (dC, dI) pcl [(h0, .inr (2, [.null, .null, .null, .null, .null, .null, .null, .null, .null, .null, .int 0, .int 0, .int 0]))] s.heap := hP
  have hl := lv_entry ([.ref h0]) (n := 1) (Nat.le_of_ble_eq_true rfl)
  rw [lg_entry_eq]
  generalize (lg_sl ([.ref h0]) ++ List.replicate (1 - (lg_sl ([.ref h0])).length) Slot.unset).toArray = ls at hl ⊢
  have hl : lv_has ls 1 [(0, .ref h0)] := hl
  obtain ⟨H, hH0⟩ : ∃ H, H = s.heap := ⟨_, rfl⟩
  rw [← hH0] at hP ⊢
  have hS : va_S A s.heap H [] := by rw [hH0]; exact hS
  refine lv_aload_n hx hb dX1_init_0 rfl (lv_at hl 0 rfl) ?_
  refine W.objInit hx hb hown (hts _ e5) (hts _ e1) (hts _ e2) rfl (by rw [hml]; exact hl.1) rfl dX1_init_1 (Nat.le_of_ble_eq_true rfl) (Nat.le_of_ble_eq_true rfl) ?_
  refine W.eq (g2 := F0 m 4 ls []) rfl ?_
  refine lv_aload_n hx hb dX1_init_4 rfl (lv_at hl 0 rfl) ?_
  refine lv_bipush (v := 30) hx hb dX1_init_5 (by decide) ?_
  refine va_newa (atype := .int) (N' := 30) (a0 := (30, .inl (fun _ => 0))) hx hb (hts _ e3) rfl hK hP hD hS hA (fun _ => rfl) (by decide) (by decide) (Nat.le_of_ble_eq_true rfl) (Nat.le_of_ble_eq_true rfl) (Nat.le_of_ble_eq_true rfl) dX1_init_7 (fun q1 cA2 H hK hP hD hS => ?_)
  have hP : va_P (dC, dI) pcl [(h0, .inr (2, [.null, .null, .null, .null, .null, .null, .null, .null, .null, .null, .int 0, .int 0, .int 0])), (q1, .inl (cA2, 30, .inl (fun _ => 0)))] H := hP
  have hD : va_D A [(h0, .inr (2, [.null, .null, .null, .null, .null, .null, .null, .null, .null, .null, .int 0, .int 0, .int 0])), (q1, .inl (cA2, 30, .inl (fun _ => 0)))] := hD
  have hK : va_K (dC, dI) pcl [(cA2, .int)] s := hK
  refine W.widen (k := 1) (n := 30) (Nat.le_of_ble_eq_true rfl) (Nat.le_of_ble_eq_true rfl) ?_
  refine va_putF (D := (dC, dI)) (ci := 2) (v := .ref q1) (ty := .array .int) (C := RX1) (T := TX1) (N := 13) hx hb hts pinX1 tyX1 tyX1_ok nmX1 hown hK hP hD hS 0 rfl rfl 0 (by decide) (hts _ e6) (fun _ h9 => h9) rfl hin rfl (by decide +kernel) rfl rfl (Nat.le_of_ble_eq_true rfl) dX1_init_9 (fun H locs hP hD hS => ?_)
  have hP : va_P (dC, dI) pcl [(h0, .inr (2, [.ref q1, .null, .null, .null, .null, .null, .null, .null, .null, .null, .int 0, .int 0, .int 0])), (q1, .inl (cA2, 30, .inl (fun _ => 0)))] H := hP
  have hD : va_D A [(h0, .inr (2, [.ref q1, .null, .null, .null, .null, .null, .null, .null, .null, .null, .int 0, .int 0, .int 0])), (q1, .inl (cA2, 30, .inl (fun _ => 0)))] := hD
  refine lv_aload_n hx hb dX1_init_12 rfl (lv_at hl 0 rfl) ?_
  refine lv_bipush (v := 30) hx hb dX1_init_13 (by decide) ?_
  refine va_newa (atype := .int) (N' := 30) (a0 := (30, .inl (fun _ => 0))) hx hb (hts _ e3) rfl hK hP hD hS hA (fun _ => rfl) (by decide) (by decide) (Nat.le_of_ble_eq_true rfl) (Nat.le_of_ble_eq_true rfl) (Nat.le_of_ble_eq_true rfl) dX1_init_15 (fun q3 cA4 H hK hP hD hS => ?_)
  have hP : va_P (dC, dI) pcl [(h0, .inr (2, [.ref q1, .null, .null, .null, .null, .null, .null, .null, .null, .null, .int 0, .int 0, .int 0])), (q1, .inl (cA2, 30, .inl (fun _ => 0))), (q3, .inl (cA4, 30, .inl (fun _ => 0)))] H := hP
  have hD : va_D A [(h0, .inr (2, [.ref q1, .null, .null, .null, .null, .null, .null, .null, .null, .null, .int 0, .int 0, .int 0])), (q1, .inl (cA2, 30, .inl (fun _ => 0))), (q3, .inl (cA4, 30, .inl (fun _ => 0)))] := hD
  have hK : va_K (dC, dI) pcl [(cA2, .int), (cA4, .int)] s := hK
  refine W.widen (k := 2) (n := 60) (Nat.le_of_ble_eq_true rfl) (Nat.le_of_ble_eq_true rfl) ?_
  refine va_putF (D := (dC, dI)) (ci := 2) (v := .ref q3) (ty := .array .int) (C := RX1) (T := TX1) (N := 13) hx hb hts pinX1 tyX1 tyX1_ok nmX1 hown hK hP hD hS 0 rfl rfl 1 (by decide) (hts _ e7) (fun _ h9 => h9) rfl hin rfl (by decide +kernel) rfl rfl (Nat.le_of_ble_eq_true rfl) dX1_init_17 (fun H locs hP hD hS => ?_)
  have hP : va_P (dC, dI) pcl [(h0, .inr (2, [.ref q1, .ref q3, .null, .null, .null, .null, .null, .null, .null, .null, .int 0, .int 0, .int 0])), (q1, .inl (cA2, 30, .inl (fun _ => 0))), (q3, .inl (cA4, 30, .inl (fun _ => 0)))] H := hP
  have hD : va_D A [(h0, .inr (2, [.ref q1, .ref q3, .null, .null, .null, .null, .null, .null, .null, .null, .int 0, .int 0, .int 0])), (q1, .inl (cA2, 30, .inl (fun _ => 0))), (q3, .inl (cA4, 30, .inl (fun _ => 0)))] := hD
  refine lv_aload_n hx hb dX1_init_20 rfl (lv_at hl 0 rfl) ?_
  refine lv_bipush (v := 30) hx hb dX1_init_21 (by decide) ?_
  refine va_newa (atype := .int) (N' := 30) (a0 := (30, .inl (fun _ => 0))) hx hb (hts _ e3) rfl hK hP hD hS hA (fun _ => rfl) (by decide) (by decide) (Nat.le_of_ble_eq_true rfl) (Nat.le_of_ble_eq_true rfl) (Nat.le_of_ble_eq_true rfl) dX1_init_23 (fun q5 cA6 H hK hP hD hS => ?_)
  have hP : va_P (dC, dI) pcl [(h0, .inr (2, [.ref q1, .ref q3, .null, .null, .null, .null, .null, .null, .null, .null, .int 0, .int 0, .int 0])), (q1, .inl (cA2, 30, .inl (fun _ => 0))), (q3, .inl (cA4, 30, .inl (fun _ => 0))), (q5, .inl (cA6, 30, .inl (fun _ => 0)))] H := hP
  have hD : va_D A [(h0, .inr (2, [.ref q1, .ref q3, .null, .null, .null, .null, .null, .null, .null, .null, .int 0, .int 0, .int 0])), (q1, .inl (cA2, 30, .inl (fun _ => 0))), (q3, .inl (cA4, 30, .inl (fun _ => 0))), (q5, .inl (cA6, 30, .inl (fun _ => 0)))] := hD
  have hK : va_K (dC, dI) pcl [(cA2, .int), (cA4, .int), (cA6, .int)] s := hK
  refine W.widen (k := 3) (n := 90) (Nat.le_of_ble_eq_true rfl) (Nat.le_of_ble_eq_true rfl) ?_
  refine va_putF (D := (dC, dI)) (ci := 2) (v := .ref q5) (ty := .array .int) (C := RX1) (T := TX1) (N := 13) hx hb hts pinX1 tyX1 tyX1_ok nmX1 hown hK hP hD hS 0 rfl rfl 2 (by decide) (hts _ e8) (fun _ h9 => h9) rfl hin rfl (by decide +kernel) rfl rfl (Nat.le_of_ble_eq_true rfl) dX1_init_25 (fun H locs hP hD hS => ?_)
  have hP : va_P (dC, dI) pcl [(h0, .inr (2, [.ref q1, .ref q3, .ref q5, .null, .null, .null, .null, .null, .null, .null, .int 0, .int 0, .int 0])), (q1, .inl (cA2, 30, .inl (fun _ => 0))), (q3, .inl (cA4, 30, .inl (fun _ => 0))), (q5, .inl (cA6, 30, .inl (fun _ => 0)))] H := hP
  have hD : va_D A [(h0, .inr (2, [.ref q1, .ref q3, .ref q5, .null, .null, .null, .null, .null, .null, .null, .int 0, .int 0, .int 0])), (q1, .inl (cA2, 30, .inl (fun _ => 0))), (q3, .inl (cA4, 30, .inl (fun _ => 0))), (q5, .inl (cA6, 30, .inl (fun _ => 0)))] := hD
  refine lv_aload_n hx hb dX1_init_28 rfl (lv_at hl 0 rfl) ?_
  refine lv_bipush (v := 30) hx hb dX1_init_29 (by decide) ?_
  refine va_newa (atype := .boolean) (N' := 30) (a0 := (30, .inl (fun _ => 0))) hx hb (hts _ e9) rfl hK hP hD hS hA (fun _ => rfl) (by decide) (by decide) (Nat.le_of_ble_eq_true rfl) (Nat.le_of_ble_eq_true rfl) (Nat.le_of_ble_eq_true rfl) dX1_init_31 (fun q7 cA8 H hK hP hD hS => ?_)
  have hP : va_P (dC, dI) pcl [(h0, .inr (2, [.ref q1, .ref q3, .ref q5, .null, .null, .null, .null, .null, .null, .null, .int 0, .int 0, .int 0])), (q1, .inl (cA2, 30, .inl (fun _ => 0))), (q3, .inl (cA4, 30, .inl (fun _ => 0))), (q5, .inl (cA6, 30, .inl (fun _ => 0))), (q7, .inl (cA8, 30, .inl (fun _ => 0)))] H := hP
  have hD : va_D A [(h0, .inr (2, [.ref q1, .ref q3, .ref q5, .null, .null, .null, .null, .null, .null, .null, .int 0, .int 0, .int 0])), (q1, .inl (cA2, 30, .inl (fun _ => 0))), (q3, .inl (cA4, 30, .inl (fun _ => 0))), (q5, .inl (cA6, 30, .inl (fun _ => 0))), (q7, .inl (cA8, 30, .inl (fun _ => 0)))] := hD
  have hK : va_K (dC, dI) pcl [(cA2, .int), (cA4, .int), (cA6, .int), (cA8, .boolean)] s := hK
  refine W.widen (k := 4) (n := 120) (Nat.le_of_ble_eq_true rfl) (Nat.le_of_ble_eq_true rfl) ?_
  refine va_putF (D := (dC, dI)) (ci := 2) (v := .ref q7) (ty := .array (.boolean)) (C := RX1) (T := TX1) (N := 13) hx hb hts pinX1 tyX1 tyX1_ok nmX1 hown hK hP hD hS 0 rfl rfl 3 (by decide) (hts _ e10) (fun _ h9 => h9) rfl hin rfl (by decide +kernel) rfl rfl (Nat.le_of_ble_eq_true rfl) dX1_init_33 (fun H locs hP hD hS => ?_)
  have hP : va_P (dC, dI) pcl [(h0, .inr (2, [.ref q1, .ref q3, .ref q5, .ref q7, .null, .null, .null, .null, .null, .null, .int 0, .int 0, .int 0])), (q1, .inl (cA2, 30, .inl (fun _ => 0))), (q3, .inl (cA4, 30, .inl (fun _ => 0))), (q5, .inl (cA6, 30, .inl (fun _ => 0))), (q7, .inl (cA8, 30, .inl (fun _ => 0)))] H := hP
  have hD : va_D A [(h0, .inr (2, [.ref q1, .ref q3, .ref q5, .ref q7, .null, .null, .null, .null, .null, .null, .int 0, .int 0, .int 0])), (q1, .inl (cA2, 30, .inl (fun _ => 0))), (q3, .inl (cA4, 30, .inl (fun _ => 0))), (q5, .inl (cA6, 30, .inl (fun _ => 0))), (q7, .inl (cA8, 30, .inl (fun _ => 0)))] := hD
  refine lv_aload_n hx hb dX1_init_36 rfl (lv_at hl 0 rfl) ?_
  refine lv_bipush (v := 30) hx hb dX1_init_37 (by decide) ?_
  refine va_newa (atype := .int) (N' := 30) (a0 := (30, .inl (fun _ => 0))) hx hb (hts _ e3) rfl hK hP hD hS hA (fun _ => rfl) (by decide) (by decide) (Nat.le_of_ble_eq_true rfl) (Nat.le_of_ble_eq_true rfl) (Nat.le_of_ble_eq_true rfl) dX1_init_39 (fun q9 cA10 H hK hP hD hS => ?_)
  have hP : va_P (dC, dI) pcl [(h0, .inr (2, [.ref q1, .ref q3, .ref q5, .ref q7, .null, .null, .null, .null, .null, .null, .int 0, .int 0, .int 0])), (q1, .inl (cA2, 30, .inl (fun _ => 0))), (q3, .inl (cA4, 30, .inl (fun _ => 0))), (q5, .inl (cA6, 30, .inl (fun _ => 0))), (q7, .inl (cA8, 30, .inl (fun _ => 0))), (q9, .inl (cA10, 30, .inl (fun _ => 0)))] H := hP
  have hD : va_D A [(h0, .inr (2, [.ref q1, .ref q3, .ref q5, .ref q7, .null, .null, .null, .null, .null, .null, .int 0, .int 0, .int 0])), (q1, .inl (cA2, 30, .inl (fun _ => 0))), (q3, .inl (cA4, 30, .inl (fun _ => 0))), (q5, .inl (cA6, 30, .inl (fun _ => 0))), (q7, .inl (cA8, 30, .inl (fun _ => 0))), (q9, .inl (cA10, 30, .inl (fun _ => 0)))] := hD
  have hK : va_K (dC, dI) pcl [(cA2, .int), (cA4, .int), (cA6, .int), (cA8, .boolean), (cA10, .int)] s := hK
  refine W.widen (k := 5) (n := 150) (Nat.le_of_ble_eq_true rfl) (Nat.le_of_ble_eq_true rfl) ?_
  refine va_putF (D := (dC, dI)) (ci := 2) (v := .ref q9) (ty := .array .int) (C := RX1) (T := TX1) (N := 13) hx hb hts pinX1 tyX1 tyX1_ok nmX1 hown hK hP hD hS 0 rfl rfl 4 (by decide) (hts _ e11) (fun _ h9 => h9) rfl hin rfl (by decide +kernel) rfl rfl (Nat.le_of_ble_eq_true rfl) dX1_init_41 (fun H locs hP hD hS => ?_)
  have hP : va_P (dC, dI) pcl [(h0, .inr (2, [.ref q1, .ref q3, .ref q5, .ref q7, .ref q9, .null, .null, .null, .null, .null, .int 0, .int 0, .int 0])), (q1, .inl (cA2, 30, .inl (fun _ => 0))), (q3, .inl (cA4, 30, .inl (fun _ => 0))), (q5, .inl (cA6, 30, .inl (fun _ => 0))), (q7, .inl (cA8, 30, .inl (fun _ => 0))), (q9, .inl (cA10, 30, .inl (fun _ => 0)))] H := hP
  have hD : va_D A [(h0, .inr (2, [.ref q1, .ref q3, .ref q5, .ref q7, .ref q9, .null, .null, .null, .null, .null, .int 0, .int 0, .int 0])), (q1, .inl (cA2, 30, .inl (fun _ => 0))), (q3, .inl (cA4, 30, .inl (fun _ => 0))), (q5, .inl (cA6, 30, .inl (fun _ => 0))), (q7, .inl (cA8, 30, .inl (fun _ => 0))), (q9, .inl (cA10, 30, .inl (fun _ => 0)))] := hD
  refine lv_aload_n hx hb dX1_init_44 rfl (lv_at hl 0 rfl) ?_
  refine lv_bipush (v := 30) hx hb dX1_init_45 (by decide) ?_
  refine va_newa (atype := .int) (N' := 30) (a0 := (30, .inl (fun _ => 0))) hx hb (hts _ e3) rfl hK hP hD hS hA (fun _ => rfl) (by decide) (by decide) (Nat.le_of_ble_eq_true rfl) (Nat.le_of_ble_eq_true rfl) (Nat.le_of_ble_eq_true rfl) dX1_init_47 (fun q11 cA12 H hK hP hD hS => ?_)
  have hP : va_P (dC, dI) pcl [(h0, .inr (2, [.ref q1, .ref q3, .ref q5, .ref q7, .ref q9, .null, .null, .null, .null, .null, .int 0, .int 0, .int 0])), (q1, .inl (cA2, 30, .inl (fun _ => 0))), (q3, .inl (cA4, 30, .inl (fun _ => 0))), (q5, .inl (cA6, 30, .inl (fun _ => 0))), (q7, .inl (cA8, 30, .inl (fun _ => 0))), (q9, .inl (cA10, 30, .inl (fun _ => 0))), (q11, .inl (cA12, 30, .inl (fun _ => 0)))] H := hP
  have hD : va_D A [(h0, .inr (2, [.ref q1, .ref q3, .ref q5, .ref q7, .ref q9, .null, .null, .null, .null, .null, .int 0, .int 0, .int 0])), (q1, .inl (cA2, 30, .inl (fun _ => 0))), (q3, .inl (cA4, 30, .inl (fun _ => 0))), (q5, .inl (cA6, 30, .inl (fun _ => 0))), (q7, .inl (cA8, 30, .inl (fun _ => 0))), (q9, .inl (cA10, 30, .inl (fun _ => 0))), (q11, .inl (cA12, 30, .inl (fun _ => 0)))] := hD
  have hK : va_K (dC, dI) pcl [(cA2, .int), (cA4, .int), (cA6, .int), (cA8, .boolean), (cA10, .int), (cA12, .int)] s := hK
  refine W.widen (k := 6) (n := 180) (Nat.le_of_ble_eq_true rfl) (Nat.le_of_ble_eq_true rfl) ?_
  refine va_putF (D := (dC, dI)) (ci := 2) (v := .ref q11) (ty := .array .int) (C := RX1) (T := TX1) (N := 13) hx hb hts pinX1 tyX1 tyX1_ok nmX1 hown hK hP hD hS 0 rfl rfl 5 (by decide) (hts _ e12) (fun _ h9 => h9) rfl hin rfl (by decide +kernel) rfl rfl (Nat.le_of_ble_eq_true rfl) dX1_init_49 (fun H locs hP hD hS => ?_)
  have hP : va_P (dC, dI) pcl [(h0, .inr (2, [.ref q1, .ref q3, .ref q5, .ref q7, .ref q9, .ref q11, .null, .null, .null, .null, .int 0, .int 0, .int 0])), (q1, .inl (cA2, 30, .inl (fun _ => 0))), (q3, .inl (cA4, 30, .inl (fun _ => 0))), (q5, .inl (cA6, 30, .inl (fun _ => 0))), (q7, .inl (cA8, 30, .inl (fun _ => 0))), (q9, .inl (cA10, 30, .inl (fun _ => 0))), (q11, .inl (cA12, 30, .inl (fun _ => 0)))] H := hP
  have hD : va_D A [(h0, .inr (2, [.ref q1, .ref q3, .ref q5, .ref q7, .ref q9, .ref q11, .null, .null, .null, .null, .int 0, .int 0, .int 0])), (q1, .inl (cA2, 30, .inl (fun _ => 0))), (q3, .inl (cA4, 30, .inl (fun _ => 0))), (q5, .inl (cA6, 30, .inl (fun _ => 0))), (q7, .inl (cA8, 30, .inl (fun _ => 0))), (q9, .inl (cA10, 30, .inl (fun _ => 0))), (q11, .inl (cA12, 30, .inl (fun _ => 0)))] := hD
  refine lv_aload_n hx hb dX1_init_52 rfl (lv_at hl 0 rfl) ?_
  refine lv_bipush (v := 30) hx hb dX1_init_53 (by decide) ?_
  refine va_newa (atype := .int) (N' := 30) (a0 := (30, .inl (fun _ => 0))) hx hb (hts _ e3) rfl hK hP hD hS hA (fun _ => rfl) (by decide) (by decide) (Nat.le_of_ble_eq_true rfl) (Nat.le_of_ble_eq_true rfl) (Nat.le_of_ble_eq_true rfl) dX1_init_55 (fun q13 cA14 H hK hP hD hS => ?_)
  have hP : va_P (dC, dI) pcl [(h0, .inr (2, [.ref q1, .ref q3, .ref q5, .ref q7, .ref q9, .ref q11, .null, .null, .null, .null, .int 0, .int 0, .int 0])), (q1, .inl (cA2, 30, .inl (fun _ => 0))), (q3, .inl (cA4, 30, .inl (fun _ => 0))), (q5, .inl (cA6, 30, .inl (fun _ => 0))), (q7, .inl (cA8, 30, .inl (fun _ => 0))), (q9, .inl (cA10, 30, .inl (fun _ => 0))), (q11, .inl (cA12, 30, .inl (fun _ => 0))), (q13, .inl (cA14, 30, .inl (fun _ => 0)))] H := hP
  have hD : va_D A [(h0, .inr (2, [.ref q1, .ref q3, .ref q5, .ref q7, .ref q9, .ref q11, .null, .null, .null, .null, .int 0, .int 0, .int 0])), (q1, .inl (cA2, 30, .inl (fun _ => 0))), (q3, .inl (cA4, 30, .inl (fun _ => 0))), (q5, .inl (cA6, 30, .inl (fun _ => 0))), (q7, .inl (cA8, 30, .inl (fun _ => 0))), (q9, .inl (cA10, 30, .inl (fun _ => 0))), (q11, .inl (cA12, 30, .inl (fun _ => 0))), (q13, .inl (cA14, 30, .inl (fun _ => 0)))] := hD
  have hK : va_K (dC, dI) pcl [(cA2, .int), (cA4, .int), (cA6, .int), (cA8, .boolean), (cA10, .int), (cA12, .int), (cA14, .int)] s := hK
  refine W.widen (k := 7) (n := 210) (Nat.le_of_ble_eq_true rfl) (Nat.le_of_ble_eq_true rfl) ?_
  refine va_putF (D := (dC, dI)) (ci := 2) (v := .ref q13) (ty := .array .int) (C := RX1) (T := TX1) (N := 13) hx hb hts pinX1 tyX1 tyX1_ok nmX1 hown hK hP hD hS 0 rfl rfl 6 (by decide) (hts _ e13) (fun _ h9 => h9) rfl hin rfl (by decide +kernel) rfl rfl (Nat.le_of_ble_eq_true rfl) dX1_init_57 (fun H locs hP hD hS => ?_)
  have hP : va_P (dC, dI) pcl [(h0, .inr (2, [.ref q1, .ref q3, .ref q5, .ref q7, .ref q9, .ref q11, .ref q13, .null, .null, .null, .int 0, .int 0, .int 0])), (q1, .inl (cA2, 30, .inl (fun _ => 0))), (q3, .inl (cA4, 30, .inl (fun _ => 0))), (q5, .inl (cA6, 30, .inl (fun _ => 0))), (q7, .inl (cA8, 30, .inl (fun _ => 0))), (q9, .inl (cA10, 30, .inl (fun _ => 0))), (q11, .inl (cA12, 30, .inl (fun _ => 0))), (q13, .inl (cA14, 30, .inl (fun _ => 0)))] H := hP
  have hD : va_D A [(h0, .inr (2, [.ref q1, .ref q3, .ref q5, .ref q7, .ref q9, .ref q11, .ref q13, .null, .null, .null, .int 0, .int 0, .int 0])), (q1, .inl (cA2, 30, .inl (fun _ => 0))), (q3, .inl (cA4, 30, .inl (fun _ => 0))), (q5, .inl (cA6, 30, .inl (fun _ => 0))), (q7, .inl (cA8, 30, .inl (fun _ => 0))), (q9, .inl (cA10, 30, .inl (fun _ => 0))), (q11, .inl (cA12, 30, .inl (fun _ => 0))), (q13, .inl (cA14, 30, .inl (fun _ => 0)))] := hD
  refine lv_aload_n hx hb dX1_init_60 rfl (lv_at hl 0 rfl) ?_
  refine lv_bipush (v := 30) hx hb dX1_init_61 (by decide) ?_
  refine va_newa (atype := .int) (N' := 30) (a0 := (30, .inl (fun _ => 0))) hx hb (hts _ e3) rfl hK hP hD hS hA (fun _ => rfl) (by decide) (by decide) (Nat.le_of_ble_eq_true rfl) (Nat.le_of_ble_eq_true rfl) (Nat.le_of_ble_eq_true rfl) dX1_init_63 (fun q15 cA16 H hK hP hD hS => ?_)
  have hP : va_P (dC, dI) pcl [(h0, .inr (2, [.ref q1, .ref q3, .ref q5, .ref q7, .ref q9, .ref q11, .ref q13, .null, .null, .null, .int 0, .int 0, .int 0])), (q1, .inl (cA2, 30, .inl (fun _ => 0))), (q3, .inl (cA4, 30, .inl (fun _ => 0))), (q5, .inl (cA6, 30, .inl (fun _ => 0))), (q7, .inl (cA8, 30, .inl (fun _ => 0))), (q9, .inl (cA10, 30, .inl (fun _ => 0))), (q11, .inl (cA12, 30, .inl (fun _ => 0))), (q13, .inl (cA14, 30, .inl (fun _ => 0))), (q15, .inl (cA16, 30, .inl (fun _ => 0)))] H := hP
  have hD : va_D A [(h0, .inr (2, [.ref q1, .ref q3, .ref q5, .ref q7, .ref q9, .ref q11, .ref q13, .null, .null, .null, .int 0, .int 0, .int 0])), (q1, .inl (cA2, 30, .inl (fun _ => 0))), (q3, .inl (cA4, 30, .inl (fun _ => 0))), (q5, .inl (cA6, 30, .inl (fun _ => 0))), (q7, .inl (cA8, 30, .inl (fun _ => 0))), (q9, .inl (cA10, 30, .inl (fun _ => 0))), (q11, .inl (cA12, 30, .inl (fun _ => 0))), (q13, .inl (cA14, 30, .inl (fun _ => 0))), (q15, .inl (cA16, 30, .inl (fun _ => 0)))] := hD
  have hK : va_K (dC, dI) pcl [(cA2, .int), (cA4, .int), (cA6, .int), (cA8, .boolean), (cA10, .int), (cA12, .int), (cA14, .int), (cA16, .int)] s := hK
  refine W.widen (k := 8) (n := 240) (Nat.le_of_ble_eq_true rfl) (Nat.le_of_ble_eq_true rfl) ?_
  refine va_putF (D := (dC, dI)) (ci := 2) (v := .ref q15) (ty := .array .int) (C := RX1) (T := TX1) (N := 13) hx hb hts pinX1 tyX1 tyX1_ok nmX1 hown hK hP hD hS 0 rfl rfl 7 (by decide) (hts _ e14) (fun _ h9 => h9) rfl hin rfl (by decide +kernel) rfl rfl (Nat.le_of_ble_eq_true rfl) dX1_init_65 (fun H locs hP hD hS => ?_)
  have hP : va_P (dC, dI) pcl [(h0, .inr (2, [.ref q1, .ref q3, .ref q5, .ref q7, .ref q9, .ref q11, .ref q13, .ref q15, .null, .null, .int 0, .int 0, .int 0])), (q1, .inl (cA2, 30, .inl (fun _ => 0))), (q3, .inl (cA4, 30, .inl (fun _ => 0))), (q5, .inl (cA6, 30, .inl (fun _ => 0))), (q7, .inl (cA8, 30, .inl (fun _ => 0))), (q9, .inl (cA10, 30, .inl (fun _ => 0))), (q11, .inl (cA12, 30, .inl (fun _ => 0))), (q13, .inl (cA14, 30, .inl (fun _ => 0))), (q15, .inl (cA16, 30, .inl (fun _ => 0)))] H := hP
  have hD : va_D A [(h0, .inr (2, [.ref q1, .ref q3, .ref q5, .ref q7, .ref q9, .ref q11, .ref q13, .ref q15, .null, .null, .int 0, .int 0, .int 0])), (q1, .inl (cA2, 30, .inl (fun _ => 0))), (q3, .inl (cA4, 30, .inl (fun _ => 0))), (q5, .inl (cA6, 30, .inl (fun _ => 0))), (q7, .inl (cA8, 30, .inl (fun _ => 0))), (q9, .inl (cA10, 30, .inl (fun _ => 0))), (q11, .inl (cA12, 30, .inl (fun _ => 0))), (q13, .inl (cA14, 30, .inl (fun _ => 0))), (q15, .inl (cA16, 30, .inl (fun _ => 0)))] := hD
  refine lv_aload_n hx hb dX1_init_68 rfl (lv_at hl 0 rfl) ?_
  refine lv_sipush (v := 1200) hx hb dX1_init_69 (by decide) ?_
  refine va_newa (atype := .int) (N' := 1200) (a0 := (1200, .inl (fun _ => 0))) hx hb (hts _ e3) rfl hK hP hD hS hA (fun _ => rfl) (by decide) (by decide) (Nat.le_of_ble_eq_true rfl) (Nat.le_of_ble_eq_true rfl) (Nat.le_of_ble_eq_true rfl) dX1_init_72 (fun q17 cA18 H hK hP hD hS => ?_)
  have hP : va_P (dC, dI) pcl [(h0, .inr (2, [.ref q1, .ref q3, .ref q5, .ref q7, .ref q9, .ref q11, .ref q13, .ref q15, .null, .null, .int 0, .int 0, .int 0])), (q1, .inl (cA2, 30, .inl (fun _ => 0))), (q3, .inl (cA4, 30, .inl (fun _ => 0))), (q5, .inl (cA6, 30, .inl (fun _ => 0))), (q7, .inl (cA8, 30, .inl (fun _ => 0))), (q9, .inl (cA10, 30, .inl (fun _ => 0))), (q11, .inl (cA12, 30, .inl (fun _ => 0))), (q13, .inl (cA14, 30, .inl (fun _ => 0))), (q15, .inl (cA16, 30, .inl (fun _ => 0))), (q17, .inl (cA18, 1200, .inl (fun _ => 0)))] H := hP
  have hD : va_D A [(h0, .inr (2, [.ref q1, .ref q3, .ref q5, .ref q7, .ref q9, .ref q11, .ref q13, .ref q15, .null, .null, .int 0, .int 0, .int 0])), (q1, .inl (cA2, 30, .inl (fun _ => 0))), (q3, .inl (cA4, 30, .inl (fun _ => 0))), (q5, .inl (cA6, 30, .inl (fun _ => 0))), (q7, .inl (cA8, 30, .inl (fun _ => 0))), (q9, .inl (cA10, 30, .inl (fun _ => 0))), (q11, .inl (cA12, 30, .inl (fun _ => 0))), (q13, .inl (cA14, 30, .inl (fun _ => 0))), (q15, .inl (cA16, 30, .inl (fun _ => 0))), (q17, .inl (cA18, 1200, .inl (fun _ => 0)))] := hD
  have hK : va_K (dC, dI) pcl [(cA2, .int), (cA4, .int), (cA6, .int), (cA8, .boolean), (cA10, .int), (cA12, .int), (cA14, .int), (cA16, .int), (cA18, .int)] s := hK
  refine W.widen (k := 9) (n := 1440) (Nat.le_of_ble_eq_true rfl) (Nat.le_of_ble_eq_true rfl) ?_
  refine va_putF (D := (dC, dI)) (ci := 2) (v := .ref q17) (ty := .array .int) (C := RX1) (T := TX1) (N := 13) hx hb hts pinX1 tyX1 tyX1_ok nmX1 hown hK hP hD hS 0 rfl rfl 8 (by decide) (hts _ e15) (fun _ h9 => h9) rfl hin rfl (by decide +kernel) rfl rfl (Nat.le_of_ble_eq_true rfl) dX1_init_74 (fun H locs hP hD hS => ?_)
  have hP : va_P (dC, dI) pcl [(h0, .inr (2, [.ref q1, .ref q3, .ref q5, .ref q7, .ref q9, .ref q11, .ref q13, .ref q15, .ref q17, .null, .int 0, .int 0, .int 0])), (q1, .inl (cA2, 30, .inl (fun _ => 0))), (q3, .inl (cA4, 30, .inl (fun _ => 0))), (q5, .inl (cA6, 30, .inl (fun _ => 0))), (q7, .inl (cA8, 30, .inl (fun _ => 0))), (q9, .inl (cA10, 30, .inl (fun _ => 0))), (q11, .inl (cA12, 30, .inl (fun _ => 0))), (q13, .inl (cA14, 30, .inl (fun _ => 0))), (q15, .inl (cA16, 30, .inl (fun _ => 0))), (q17, .inl (cA18, 1200, .inl (fun _ => 0)))] H := hP
  have hD : va_D A [(h0, .inr (2, [.ref q1, .ref q3, .ref q5, .ref q7, .ref q9, .ref q11, .ref q13, .ref q15, .ref q17, .null, .int 0, .int 0, .int 0])), (q1, .inl (cA2, 30, .inl (fun _ => 0))), (q3, .inl (cA4, 30, .inl (fun _ => 0))), (q5, .inl (cA6, 30, .inl (fun _ => 0))), (q7, .inl (cA8, 30, .inl (fun _ => 0))), (q9, .inl (cA10, 30, .inl (fun _ => 0))), (q11, .inl (cA12, 30, .inl (fun _ => 0))), (q13, .inl (cA14, 30, .inl (fun _ => 0))), (q15, .inl (cA16, 30, .inl (fun _ => 0))), (q17, .inl (cA18, 1200, .inl (fun _ => 0)))] := hD
  refine lv_aload_n hx hb dX1_init_77 rfl (lv_at hl 0 rfl) ?_
  refine lv_sipush (v := 1200) hx hb dX1_init_78 (by decide) ?_
  refine va_newa (atype := .int) (N' := 1200) (a0 := (1200, .inl (fun _ => 0))) hx hb (hts _ e3) rfl hK hP hD hS hA (fun _ => rfl) (by decide) (by decide) (Nat.le_of_ble_eq_true rfl) (Nat.le_of_ble_eq_true rfl) (Nat.le_of_ble_eq_true rfl) dX1_init_81 (fun q19 cA20 H hK hP hD hS => ?_)
  have hP : va_P (dC, dI) pcl [(h0, .inr (2, [.ref q1, .ref q3, .ref q5, .ref q7, .ref q9, .ref q11, .ref q13, .ref q15, .ref q17, .null, .int 0, .int 0, .int 0])), (q1, .inl (cA2, 30, .inl (fun _ => 0))), (q3, .inl (cA4, 30, .inl (fun _ => 0))), (q5, .inl (cA6, 30, .inl (fun _ => 0))), (q7, .inl (cA8, 30, .inl (fun _ => 0))), (q9, .inl (cA10, 30, .inl (fun _ => 0))), (q11, .inl (cA12, 30, .inl (fun _ => 0))), (q13, .inl (cA14, 30, .inl (fun _ => 0))), (q15, .inl (cA16, 30, .inl (fun _ => 0))), (q17, .inl (cA18, 1200, .inl (fun _ => 0))), (q19, .inl (cA20, 1200, .inl (fun _ => 0)))] H := hP
  have hD : va_D A [(h0, .inr (2, [.ref q1, .ref q3, .ref q5, .ref q7, .ref q9, .ref q11, .ref q13, .ref q15, .ref q17, .null, .int 0, .int 0, .int 0])), (q1, .inl (cA2, 30, .inl (fun _ => 0))), (q3, .inl (cA4, 30, .inl (fun _ => 0))), (q5, .inl (cA6, 30, .inl (fun _ => 0))), (q7, .inl (cA8, 30, .inl (fun _ => 0))), (q9, .inl (cA10, 30, .inl (fun _ => 0))), (q11, .inl (cA12, 30, .inl (fun _ => 0))), (q13, .inl (cA14, 30, .inl (fun _ => 0))), (q15, .inl (cA16, 30, .inl (fun _ => 0))), (q17, .inl (cA18, 1200, .inl (fun _ => 0))), (q19, .inl (cA20, 1200, .inl (fun _ => 0)))] := hD
  have hK : va_K (dC, dI) pcl [(cA2, .int), (cA4, .int), (cA6, .int), (cA8, .boolean), (cA10, .int), (cA12, .int), (cA14, .int), (cA16, .int), (cA18, .int), (cA20, .int)] s := hK
  refine W.widen (k := 10) (n := 2640) (Nat.le_of_ble_eq_true rfl) (Nat.le_of_ble_eq_true rfl) ?_
  refine va_putF (D := (dC, dI)) (ci := 2) (v := .ref q19) (ty := .array .int) (C := RX1) (T := TX1) (N := 13) hx hb hts pinX1 tyX1 tyX1_ok nmX1 hown hK hP hD hS 0 rfl rfl 9 (by decide) (hts _ e16) (fun _ h9 => h9) rfl hin rfl (by decide +kernel) rfl rfl (Nat.le_of_ble_eq_true rfl) dX1_init_83 (fun H locs hP hD hS => ?_)
  have hP : va_P (dC, dI) pcl [(h0, .inr (2, [.ref q1, .ref q3, .ref q5, .ref q7, .ref q9, .ref q11, .ref q13, .ref q15, .ref q17, .ref q19, .int 0, .int 0, .int 0])), (q1, .inl (cA2, 30, .inl (fun _ => 0))), (q3, .inl (cA4, 30, .inl (fun _ => 0))), (q5, .inl (cA6, 30, .inl (fun _ => 0))), (q7, .inl (cA8, 30, .inl (fun _ => 0))), (q9, .inl (cA10, 30, .inl (fun _ => 0))), (q11, .inl (cA12, 30, .inl (fun _ => 0))), (q13, .inl (cA14, 30, .inl (fun _ => 0))), (q15, .inl (cA16, 30, .inl (fun _ => 0))), (q17, .inl (cA18, 1200, .inl (fun _ => 0))), (q19, .inl (cA20, 1200, .inl (fun _ => 0)))] H := hP
  have hD : va_D A [(h0, .inr (2, [.ref q1, .ref q3, .ref q5, .ref q7, .ref q9, .ref q11, .ref q13, .ref q15, .ref q17, .ref q19, .int 0, .int 0, .int 0])), (q1, .inl (cA2, 30, .inl (fun _ => 0))), (q3, .inl (cA4, 30, .inl (fun _ => 0))), (q5, .inl (cA6, 30, .inl (fun _ => 0))), (q7, .inl (cA8, 30, .inl (fun _ => 0))), (q9, .inl (cA10, 30, .inl (fun _ => 0))), (q11, .inl (cA12, 30, .inl (fun _ => 0))), (q13, .inl (cA14, 30, .inl (fun _ => 0))), (q15, .inl (cA16, 30, .inl (fun _ => 0))), (q17, .inl (cA18, 1200, .inl (fun _ => 0))), (q19, .inl (cA20, 1200, .inl (fun _ => 0)))] := hD
  have hP9 := hP.sub (ws' := [(h0, .inr (2, [.ref q1, .ref q3, .ref q5, .ref q7, .ref q9, .ref q11, .ref q13, .ref q15, .ref q17, .ref q19, .int 0, .int 0, .int 0]))]) [0] rfl
  have hD9 := hD.sub (ws' := [(h0, .inr (2, [.ref q1, .ref q3, .ref q5, .ref q7, .ref q9, .ref q11, .ref q13, .ref q15, .ref q17, .ref q19, .int 0, .int 0, .int 0]))]) [0] (by decide) rfl
  have hK9 := hK.sub (tys' := []) [] rfl
  refine W.widen (k := 10) (n := 2640) (Nat.le_of_ble_eq_true rfl) (Nat.le_of_ble_eq_true rfl) ?_
  exact W.vret hx hb hr (fun t ht hW => ⟨⟨(), rfl, trivial, q1, q3, q5, q7, q9, q11, q13, q15, q17, q19, by rw [ht]; exact hP9, va_K.moved hW.alike hK9, hD9⟩, hS.F ht⟩) hS.2.2 dX1_init_86
set_option maxHeartbeats 4000000 in
set_option maxRecDepth 100000 in
theorem c_X2_init (l : Launch) (dC : Nat → ClassId) (dI : Nat → Nat → Nat) (z : pG) (h0 : Nat) (sz : Nat) : Met l yX2_init (ws_ yX2_init cX2_init 1 none) ({ frames := 1, cells := 6, slots := 600, locals := 12 }) (va_Pc [.ref h0] (pPre z dC dI [(h0, .inr (3, [.null, .null, .null, .null, .null, .null, .int 0, .int 0, .int 0, .int 0, .int 0]))] [] sz)) (va_Qv (fun (_ : Unit) => True) (fun _ t => ∃ (a1 : Nat) (a2 : Nat) (a3 : Nat) (a4 : Nat) (a5 : Nat) (a6 : Nat), pPost dC dI (va_A [(h0, .inr (3, [.null, .null, .null, .null, .null, .null, .int 0, .int 0, .int 0, .int 0, .int 0]))] sz) [(h0, .inr (3, [.ref a1, .ref a2, .ref a3, .ref a4, .ref a5, .ref a6, .int 0, .int 0, .int 0, .int 0, .int 0]))] [] t) (va_A [(h0, .inr (3, [.null, .null, .null, .null, .null, .null, .int 0, .int 0, .int 0, .int 0, .int 0]))] sz)) 6 600 (va_A [(h0, .inr (3, [.null, .null, .null, .null, .null, .null, .int 0, .int 0, .int 0, .int 0, .int 0]))] sz) := by
  refine Met.ofW (cc := cX2_init) (maxL := 1) (ret := none) (by decide) rfl ?_
  intro p e s m args below meth c s₁ B hml hv
  obtain ⟨rfl, hsz, hP, hK, hD0, hE⟩ := hv
  have hx := B.exec
  have hb := B.bytes
  have hr := B.returns
  have hts0 := atoms_spec (ws := ws_ yX2_init cX2_init 1 none) B.pre
  have hts := fun (w : Cond) (h : w ∈ pw) => hts0 w (List.mem_cons_of_mem _ h)
  have hown : s.vm.findClass RX2 = some m.cls := findClass_of_methodNamed B.named
  have hlocks := B.notSynchronized
  have hin : meth.name = "<init>" := (name_of_methodNamed B.named B.method).1
  subst hsz
  have hD := hD0.self (sz := s.heap.size)
  generalize hAe : va_A [(h0, .inr (3, [.null, .null, .null, .null, .null, .null, .int 0, .int 0, .int 0, .int 0, .int 0]))] s.heap.size = A at hD hE ⊢
  have hA : ∀ q : Nat, s.heap.size ≤ q → A q := fun q h => by rw [← hAe]; exact Or.inr h
  have hS : va_S A s.heap s.heap [] := va_S.rf
  have hN := hE.1
  have hP : va_P (dC, dI) pcl [(h0, .inr (3, [.null, .null, .null, .null, .null, .null, .int 0, .int 0, .int 0, .int 0, .int 0]))] s.heap := hP
  have hl := lv_entry ([.ref h0]) (n := 1) (Nat.le_of_ble_eq_true rfl)
  rw [lg_entry_eq]
  generalize (lg_sl ([.ref h0]) ++ List.replicate (1 - (lg_sl ([.ref h0])).length) Slot.unset).toArray = ls at hl ⊢
  have hl : lv_has ls 1 [(0, .ref h0)] := hl
  obtain ⟨H, hH0⟩ : ∃ H, H = s.heap := ⟨_, rfl⟩
  rw [← hH0] at hP ⊢
  have hS : va_S A s.heap H [] := by rw [hH0]; exact hS
  refine lv_aload_n hx hb dX2_init_0 rfl (lv_at hl 0 rfl) ?_
  refine W.objInit hx hb hown (hts _ e24) (hts _ e1) (hts _ e2) rfl (by rw [hml]; exact hl.1) rfl dX2_init_1 (Nat.le_of_ble_eq_true rfl) (Nat.le_of_ble_eq_true rfl) ?_
  refine W.eq (g2 := F0 m 4 ls []) rfl ?_
  refine lv_aload_n hx hb dX2_init_4 rfl (lv_at hl 0 rfl) ?_
  refine lv_bipush (v := 40) hx hb dX2_init_5 (by decide) ?_
  refine va_newa (atype := .int) (N' := 40) (a0 := (40, .inl (fun _ => 0))) hx hb (hts _ e3) rfl hK hP hD hS hA (fun _ => rfl) (by decide) (by decide) (Nat.le_of_ble_eq_true rfl) (Nat.le_of_ble_eq_true rfl) (Nat.le_of_ble_eq_true rfl) dX2_init_7 (fun q1 cA2 H hK hP hD hS => ?_)
  have hP : va_P (dC, dI) pcl [(h0, .inr (3, [.null, .null, .null, .null, .null, .null, .int 0, .int 0, .int 0, .int 0, .int 0])), (q1, .inl (cA2, 40, .inl (fun _ => 0)))] H := hP
  have hD : va_D A [(h0, .inr (3, [.null, .null, .null, .null, .null, .null, .int 0, .int 0, .int 0, .int 0, .int 0])), (q1, .inl (cA2, 40, .inl (fun _ => 0)))] := hD
  have hK : va_K (dC, dI) pcl [(cA2, .int)] s := hK
  refine W.widen (k := 1) (n := 40) (Nat.le_of_ble_eq_true rfl) (Nat.le_of_ble_eq_true rfl) ?_
  refine va_putF (D := (dC, dI)) (ci := 3) (v := .ref q1) (ty := .array .int) (C := RX2) (T := TX2) (N := 11) hx hb hts pinX2 tyX2 tyX2_ok nmX2 hown hK hP hD hS 0 rfl rfl 0 (by decide) (hts _ e25) (fun _ h9 => h9) rfl hin rfl (by decide +kernel) rfl rfl (Nat.le_of_ble_eq_true rfl) dX2_init_9 (fun H locs hP hD hS => ?_)
  have hP : va_P (dC, dI) pcl [(h0, .inr (3, [.ref q1, .null, .null, .null, .null, .null, .int 0, .int 0, .int 0, .int 0, .int 0])), (q1, .inl (cA2, 40, .inl (fun _ => 0)))] H := hP
  have hD : va_D A [(h0, .inr (3, [.ref q1, .null, .null, .null, .null, .null, .int 0, .int 0, .int 0, .int 0, .int 0])), (q1, .inl (cA2, 40, .inl (fun _ => 0)))] := hD
  refine lv_aload_n hx hb dX2_init_12 rfl (lv_at hl 0 rfl) ?_
  refine lv_bipush (v := 40) hx hb dX2_init_13 (by decide) ?_
  refine va_newa (atype := .int) (N' := 40) (a0 := (40, .inl (fun _ => 0))) hx hb (hts _ e3) rfl hK hP hD hS hA (fun _ => rfl) (by decide) (by decide) (Nat.le_of_ble_eq_true rfl) (Nat.le_of_ble_eq_true rfl) (Nat.le_of_ble_eq_true rfl) dX2_init_15 (fun q3 cA4 H hK hP hD hS => ?_)
  have hP : va_P (dC, dI) pcl [(h0, .inr (3, [.ref q1, .null, .null, .null, .null, .null, .int 0, .int 0, .int 0, .int 0, .int 0])), (q1, .inl (cA2, 40, .inl (fun _ => 0))), (q3, .inl (cA4, 40, .inl (fun _ => 0)))] H := hP
  have hD : va_D A [(h0, .inr (3, [.ref q1, .null, .null, .null, .null, .null, .int 0, .int 0, .int 0, .int 0, .int 0])), (q1, .inl (cA2, 40, .inl (fun _ => 0))), (q3, .inl (cA4, 40, .inl (fun _ => 0)))] := hD
  have hK : va_K (dC, dI) pcl [(cA2, .int), (cA4, .int)] s := hK
  refine W.widen (k := 2) (n := 80) (Nat.le_of_ble_eq_true rfl) (Nat.le_of_ble_eq_true rfl) ?_
  refine va_putF (D := (dC, dI)) (ci := 3) (v := .ref q3) (ty := .array .int) (C := RX2) (T := TX2) (N := 11) hx hb hts pinX2 tyX2 tyX2_ok nmX2 hown hK hP hD hS 0 rfl rfl 1 (by decide) (hts _ e26) (fun _ h9 => h9) rfl hin rfl (by decide +kernel) rfl rfl (Nat.le_of_ble_eq_true rfl) dX2_init_17 (fun H locs hP hD hS => ?_)
  have hP : va_P (dC, dI) pcl [(h0, .inr (3, [.ref q1, .ref q3, .null, .null, .null, .null, .int 0, .int 0, .int 0, .int 0, .int 0])), (q1, .inl (cA2, 40, .inl (fun _ => 0))), (q3, .inl (cA4, 40, .inl (fun _ => 0)))] H := hP
  have hD : va_D A [(h0, .inr (3, [.ref q1, .ref q3, .null, .null, .null, .null, .int 0, .int 0, .int 0, .int 0, .int 0])), (q1, .inl (cA2, 40, .inl (fun _ => 0))), (q3, .inl (cA4, 40, .inl (fun _ => 0)))] := hD
  refine lv_aload_n hx hb dX2_init_20 rfl (lv_at hl 0 rfl) ?_
  refine lv_bipush (v := 40) hx hb dX2_init_21 (by decide) ?_
  refine va_newa (atype := .int) (N' := 40) (a0 := (40, .inl (fun _ => 0))) hx hb (hts _ e3) rfl hK hP hD hS hA (fun _ => rfl) (by decide) (by decide) (Nat.le_of_ble_eq_true rfl) (Nat.le_of_ble_eq_true rfl) (Nat.le_of_ble_eq_true rfl) dX2_init_23 (fun q5 cA6 H hK hP hD hS => ?_)
  have hP : va_P (dC, dI) pcl [(h0, .inr (3, [.ref q1, .ref q3, .null, .null, .null, .null, .int 0, .int 0, .int 0, .int 0, .int 0])), (q1, .inl (cA2, 40, .inl (fun _ => 0))), (q3, .inl (cA4, 40, .inl (fun _ => 0))), (q5, .inl (cA6, 40, .inl (fun _ => 0)))] H := hP
  have hD : va_D A [(h0, .inr (3, [.ref q1, .ref q3, .null, .null, .null, .null, .int 0, .int 0, .int 0, .int 0, .int 0])), (q1, .inl (cA2, 40, .inl (fun _ => 0))), (q3, .inl (cA4, 40, .inl (fun _ => 0))), (q5, .inl (cA6, 40, .inl (fun _ => 0)))] := hD
  have hK : va_K (dC, dI) pcl [(cA2, .int), (cA4, .int), (cA6, .int)] s := hK
  refine W.widen (k := 3) (n := 120) (Nat.le_of_ble_eq_true rfl) (Nat.le_of_ble_eq_true rfl) ?_
  refine va_putF (D := (dC, dI)) (ci := 3) (v := .ref q5) (ty := .array .int) (C := RX2) (T := TX2) (N := 11) hx hb hts pinX2 tyX2 tyX2_ok nmX2 hown hK hP hD hS 0 rfl rfl 2 (by decide) (hts _ e27) (fun _ h9 => h9) rfl hin rfl (by decide +kernel) rfl rfl (Nat.le_of_ble_eq_true rfl) dX2_init_25 (fun H locs hP hD hS => ?_)
  have hP : va_P (dC, dI) pcl [(h0, .inr (3, [.ref q1, .ref q3, .ref q5, .null, .null, .null, .int 0, .int 0, .int 0, .int 0, .int 0])), (q1, .inl (cA2, 40, .inl (fun _ => 0))), (q3, .inl (cA4, 40, .inl (fun _ => 0))), (q5, .inl (cA6, 40, .inl (fun _ => 0)))] H := hP
  have hD : va_D A [(h0, .inr (3, [.ref q1, .ref q3, .ref q5, .null, .null, .null, .int 0, .int 0, .int 0, .int 0, .int 0])), (q1, .inl (cA2, 40, .inl (fun _ => 0))), (q3, .inl (cA4, 40, .inl (fun _ => 0))), (q5, .inl (cA6, 40, .inl (fun _ => 0)))] := hD
  refine lv_aload_n hx hb dX2_init_28 rfl (lv_at hl 0 rfl) ?_
  refine lv_sipush (v := 160) hx hb dX2_init_29 (by decide) ?_
  refine va_newa (atype := .int) (N' := 160) (a0 := (160, .inl (fun _ => 0))) hx hb (hts _ e3) rfl hK hP hD hS hA (fun _ => rfl) (by decide) (by decide) (Nat.le_of_ble_eq_true rfl) (Nat.le_of_ble_eq_true rfl) (Nat.le_of_ble_eq_true rfl) dX2_init_32 (fun q7 cA8 H hK hP hD hS => ?_)
  have hP : va_P (dC, dI) pcl [(h0, .inr (3, [.ref q1, .ref q3, .ref q5, .null, .null, .null, .int 0, .int 0, .int 0, .int 0, .int 0])), (q1, .inl (cA2, 40, .inl (fun _ => 0))), (q3, .inl (cA4, 40, .inl (fun _ => 0))), (q5, .inl (cA6, 40, .inl (fun _ => 0))), (q7, .inl (cA8, 160, .inl (fun _ => 0)))] H := hP
  have hD : va_D A [(h0, .inr (3, [.ref q1, .ref q3, .ref q5, .null, .null, .null, .int 0, .int 0, .int 0, .int 0, .int 0])), (q1, .inl (cA2, 40, .inl (fun _ => 0))), (q3, .inl (cA4, 40, .inl (fun _ => 0))), (q5, .inl (cA6, 40, .inl (fun _ => 0))), (q7, .inl (cA8, 160, .inl (fun _ => 0)))] := hD
  have hK : va_K (dC, dI) pcl [(cA2, .int), (cA4, .int), (cA6, .int), (cA8, .int)] s := hK
  refine W.widen (k := 4) (n := 280) (Nat.le_of_ble_eq_true rfl) (Nat.le_of_ble_eq_true rfl) ?_
  refine va_putF (D := (dC, dI)) (ci := 3) (v := .ref q7) (ty := .array .int) (C := RX2) (T := TX2) (N := 11) hx hb hts pinX2 tyX2 tyX2_ok nmX2 hown hK hP hD hS 0 rfl rfl 3 (by decide) (hts _ e28) (fun _ h9 => h9) rfl hin rfl (by decide +kernel) rfl rfl (Nat.le_of_ble_eq_true rfl) dX2_init_34 (fun H locs hP hD hS => ?_)
  have hP : va_P (dC, dI) pcl [(h0, .inr (3, [.ref q1, .ref q3, .ref q5, .ref q7, .null, .null, .int 0, .int 0, .int 0, .int 0, .int 0])), (q1, .inl (cA2, 40, .inl (fun _ => 0))), (q3, .inl (cA4, 40, .inl (fun _ => 0))), (q5, .inl (cA6, 40, .inl (fun _ => 0))), (q7, .inl (cA8, 160, .inl (fun _ => 0)))] H := hP
  have hD : va_D A [(h0, .inr (3, [.ref q1, .ref q3, .ref q5, .ref q7, .null, .null, .int 0, .int 0, .int 0, .int 0, .int 0])), (q1, .inl (cA2, 40, .inl (fun _ => 0))), (q3, .inl (cA4, 40, .inl (fun _ => 0))), (q5, .inl (cA6, 40, .inl (fun _ => 0))), (q7, .inl (cA8, 160, .inl (fun _ => 0)))] := hD
  refine lv_aload_n hx hb dX2_init_37 rfl (lv_at hl 0 rfl) ?_
  refine lv_sipush (v := 160) hx hb dX2_init_38 (by decide) ?_
  refine va_newa (atype := .int) (N' := 160) (a0 := (160, .inl (fun _ => 0))) hx hb (hts _ e3) rfl hK hP hD hS hA (fun _ => rfl) (by decide) (by decide) (Nat.le_of_ble_eq_true rfl) (Nat.le_of_ble_eq_true rfl) (Nat.le_of_ble_eq_true rfl) dX2_init_41 (fun q9 cA10 H hK hP hD hS => ?_)
  have hP : va_P (dC, dI) pcl [(h0, .inr (3, [.ref q1, .ref q3, .ref q5, .ref q7, .null, .null, .int 0, .int 0, .int 0, .int 0, .int 0])), (q1, .inl (cA2, 40, .inl (fun _ => 0))), (q3, .inl (cA4, 40, .inl (fun _ => 0))), (q5, .inl (cA6, 40, .inl (fun _ => 0))), (q7, .inl (cA8, 160, .inl (fun _ => 0))), (q9, .inl (cA10, 160, .inl (fun _ => 0)))] H := hP
  have hD : va_D A [(h0, .inr (3, [.ref q1, .ref q3, .ref q5, .ref q7, .null, .null, .int 0, .int 0, .int 0, .int 0, .int 0])), (q1, .inl (cA2, 40, .inl (fun _ => 0))), (q3, .inl (cA4, 40, .inl (fun _ => 0))), (q5, .inl (cA6, 40, .inl (fun _ => 0))), (q7, .inl (cA8, 160, .inl (fun _ => 0))), (q9, .inl (cA10, 160, .inl (fun _ => 0)))] := hD
  have hK : va_K (dC, dI) pcl [(cA2, .int), (cA4, .int), (cA6, .int), (cA8, .int), (cA10, .int)] s := hK
  refine W.widen (k := 5) (n := 440) (Nat.le_of_ble_eq_true rfl) (Nat.le_of_ble_eq_true rfl) ?_
  refine va_putF (D := (dC, dI)) (ci := 3) (v := .ref q9) (ty := .array .int) (C := RX2) (T := TX2) (N := 11) hx hb hts pinX2 tyX2 tyX2_ok nmX2 hown hK hP hD hS 0 rfl rfl 4 (by decide) (hts _ e29) (fun _ h9 => h9) rfl hin rfl (by decide +kernel) rfl rfl (Nat.le_of_ble_eq_true rfl) dX2_init_43 (fun H locs hP hD hS => ?_)
  have hP : va_P (dC, dI) pcl [(h0, .inr (3, [.ref q1, .ref q3, .ref q5, .ref q7, .ref q9, .null, .int 0, .int 0, .int 0, .int 0, .int 0])), (q1, .inl (cA2, 40, .inl (fun _ => 0))), (q3, .inl (cA4, 40, .inl (fun _ => 0))), (q5, .inl (cA6, 40, .inl (fun _ => 0))), (q7, .inl (cA8, 160, .inl (fun _ => 0))), (q9, .inl (cA10, 160, .inl (fun _ => 0)))] H := hP
  have hD : va_D A [(h0, .inr (3, [.ref q1, .ref q3, .ref q5, .ref q7, .ref q9, .null, .int 0, .int 0, .int 0, .int 0, .int 0])), (q1, .inl (cA2, 40, .inl (fun _ => 0))), (q3, .inl (cA4, 40, .inl (fun _ => 0))), (q5, .inl (cA6, 40, .inl (fun _ => 0))), (q7, .inl (cA8, 160, .inl (fun _ => 0))), (q9, .inl (cA10, 160, .inl (fun _ => 0)))] := hD
  refine lv_aload_n hx hb dX2_init_46 rfl (lv_at hl 0 rfl) ?_
  refine lv_sipush (v := 160) hx hb dX2_init_47 (by decide) ?_
  refine va_newa (atype := .int) (N' := 160) (a0 := (160, .inl (fun _ => 0))) hx hb (hts _ e3) rfl hK hP hD hS hA (fun _ => rfl) (by decide) (by decide) (Nat.le_of_ble_eq_true rfl) (Nat.le_of_ble_eq_true rfl) (Nat.le_of_ble_eq_true rfl) dX2_init_50 (fun q11 cA12 H hK hP hD hS => ?_)
  have hP : va_P (dC, dI) pcl [(h0, .inr (3, [.ref q1, .ref q3, .ref q5, .ref q7, .ref q9, .null, .int 0, .int 0, .int 0, .int 0, .int 0])), (q1, .inl (cA2, 40, .inl (fun _ => 0))), (q3, .inl (cA4, 40, .inl (fun _ => 0))), (q5, .inl (cA6, 40, .inl (fun _ => 0))), (q7, .inl (cA8, 160, .inl (fun _ => 0))), (q9, .inl (cA10, 160, .inl (fun _ => 0))), (q11, .inl (cA12, 160, .inl (fun _ => 0)))] H := hP
  have hD : va_D A [(h0, .inr (3, [.ref q1, .ref q3, .ref q5, .ref q7, .ref q9, .null, .int 0, .int 0, .int 0, .int 0, .int 0])), (q1, .inl (cA2, 40, .inl (fun _ => 0))), (q3, .inl (cA4, 40, .inl (fun _ => 0))), (q5, .inl (cA6, 40, .inl (fun _ => 0))), (q7, .inl (cA8, 160, .inl (fun _ => 0))), (q9, .inl (cA10, 160, .inl (fun _ => 0))), (q11, .inl (cA12, 160, .inl (fun _ => 0)))] := hD
  have hK : va_K (dC, dI) pcl [(cA2, .int), (cA4, .int), (cA6, .int), (cA8, .int), (cA10, .int), (cA12, .int)] s := hK
  refine W.widen (k := 6) (n := 600) (Nat.le_of_ble_eq_true rfl) (Nat.le_of_ble_eq_true rfl) ?_
  refine va_putF (D := (dC, dI)) (ci := 3) (v := .ref q11) (ty := .array .int) (C := RX2) (T := TX2) (N := 11) hx hb hts pinX2 tyX2 tyX2_ok nmX2 hown hK hP hD hS 0 rfl rfl 5 (by decide) (hts _ e30) (fun _ h9 => h9) rfl hin rfl (by decide +kernel) rfl rfl (Nat.le_of_ble_eq_true rfl) dX2_init_52 (fun H locs hP hD hS => ?_)
  have hP : va_P (dC, dI) pcl [(h0, .inr (3, [.ref q1, .ref q3, .ref q5, .ref q7, .ref q9, .ref q11, .int 0, .int 0, .int 0, .int 0, .int 0])), (q1, .inl (cA2, 40, .inl (fun _ => 0))), (q3, .inl (cA4, 40, .inl (fun _ => 0))), (q5, .inl (cA6, 40, .inl (fun _ => 0))), (q7, .inl (cA8, 160, .inl (fun _ => 0))), (q9, .inl (cA10, 160, .inl (fun _ => 0))), (q11, .inl (cA12, 160, .inl (fun _ => 0)))] H := hP
  have hD : va_D A [(h0, .inr (3, [.ref q1, .ref q3, .ref q5, .ref q7, .ref q9, .ref q11, .int 0, .int 0, .int 0, .int 0, .int 0])), (q1, .inl (cA2, 40, .inl (fun _ => 0))), (q3, .inl (cA4, 40, .inl (fun _ => 0))), (q5, .inl (cA6, 40, .inl (fun _ => 0))), (q7, .inl (cA8, 160, .inl (fun _ => 0))), (q9, .inl (cA10, 160, .inl (fun _ => 0))), (q11, .inl (cA12, 160, .inl (fun _ => 0)))] := hD
  have hP9 := hP.sub (ws' := [(h0, .inr (3, [.ref q1, .ref q3, .ref q5, .ref q7, .ref q9, .ref q11, .int 0, .int 0, .int 0, .int 0, .int 0]))]) [0] rfl
  have hD9 := hD.sub (ws' := [(h0, .inr (3, [.ref q1, .ref q3, .ref q5, .ref q7, .ref q9, .ref q11, .int 0, .int 0, .int 0, .int 0, .int 0]))]) [0] (by decide) rfl
  have hK9 := hK.sub (tys' := []) [] rfl
  refine W.widen (k := 6) (n := 600) (Nat.le_of_ble_eq_true rfl) (Nat.le_of_ble_eq_true rfl) ?_
  exact W.vret hx hb hr (fun t ht hW => ⟨⟨(), rfl, trivial, q1, q3, q5, q7, q9, q11, by rw [ht]; exact hP9, va_K.moved hW.alike hK9, hD9⟩, hS.F ht⟩) hS.2.2 dX2_init_55
set_option maxHeartbeats 4000000 in
set_option maxRecDepth 100000 in
theorem c_X5_init (l : Launch) (dC : Nat → ClassId) (dI : Nat → Nat → Nat) (z : pG) (h0 : Nat) (sz : Nat) : Met l yX5_init (ws_ yX5_init cX5_init 1 none) ({ frames := 1, cells := 2, slots := 80, locals := 12 }) (va_Pc [.ref h0] (pPre z dC dI [(h0, .inr (6, [.null, .null, .int 0, .int 0]))] [] sz)) (va_Qv (fun (_ : Unit) => True) (fun _ t => ∃ (a1 : Nat) (a2 : Nat) (cB : ClassId) (cC : ClassId), pPost dC dI (va_A [(h0, .inr (6, [.null, .null, .int 0, .int 0]))] sz) [(h0, .inr (6, [.ref a1, .ref a2, .int 0, .int 0])), (a1, .inl (cB, 40, .inl (fun _ => 0))), (a2, .inl (cC, 40, .inl (fun _ => 0)))] [(cB, .int), (cC, .int)] t) (va_A [(h0, .inr (6, [.null, .null, .int 0, .int 0]))] sz)) 2 80 (va_A [(h0, .inr (6, [.null, .null, .int 0, .int 0]))] sz) := by
  refine Met.ofW (cc := cX5_init) (maxL := 1) (ret := none) (by decide) rfl ?_
  intro p e s m args below meth c s₁ B hml hv
  obtain ⟨rfl, hsz, hP, hK, hD0, hE⟩ := hv
  have hx := B.exec
  have hb := B.bytes
  have hr := B.returns
  have hts0 := atoms_spec (ws := ws_ yX5_init cX5_init 1 none) B.pre
  have hts := fun (w : Cond) (h : w ∈ pw) => hts0 w (List.mem_cons_of_mem _ h)
  have hown : s.vm.findClass RX5 = some m.cls := findClass_of_methodNamed B.named
  have hlocks := B.notSynchronized
  have hin : meth.name = "<init>" := (name_of_methodNamed B.named B.method).1
  subst hsz
  have hD := hD0.self (sz := s.heap.size)
  generalize hAe : va_A [(h0, .inr (6, [.null, .null, .int 0, .int 0]))] s.heap.size = A at hD hE ⊢
  have hA : ∀ q : Nat, s.heap.size ≤ q → A q := fun q h => by rw [← hAe]; exact Or.inr h
  have hS : va_S A s.heap s.heap [] := va_S.rf
  have hN := hE.1
  have hP : va_P (dC, dI) pcl [(h0, .inr (6, [.null, .null, .int 0, .int 0]))] s.heap := hP
  have hl := lv_entry ([.ref h0]) (n := 1) (Nat.le_of_ble_eq_true rfl)
  rw [lg_entry_eq]
  generalize (lg_sl ([.ref h0]) ++ List.replicate (1 - (lg_sl ([.ref h0])).length) Slot.unset).toArray = ls at hl ⊢
  have hl : lv_has ls 1 [(0, .ref h0)] := hl
  obtain ⟨H, hH0⟩ : ∃ H, H = s.heap := ⟨_, rfl⟩
  rw [← hH0] at hP ⊢
  have hS : va_S A s.heap H [] := by rw [hH0]; exact hS
  refine lv_aload_n hx hb dX5_init_0 rfl (lv_at hl 0 rfl) ?_
  refine W.objInit hx hb hown (hts _ e50) (hts _ e1) (hts _ e2) rfl (by rw [hml]; exact hl.1) rfl dX5_init_1 (Nat.le_of_ble_eq_true rfl) (Nat.le_of_ble_eq_true rfl) ?_
  refine W.eq (g2 := F0 m 4 ls []) rfl ?_
  refine lv_aload_n hx hb dX5_init_4 rfl (lv_at hl 0 rfl) ?_
  refine lv_bipush (v := 40) hx hb dX5_init_5 (by decide) ?_
  refine va_newa (atype := .int) (N' := 40) (a0 := (40, .inl (fun _ => 0))) hx hb (hts _ e3) rfl hK hP hD hS hA (fun _ => rfl) (by decide) (by decide) (Nat.le_of_ble_eq_true rfl) (Nat.le_of_ble_eq_true rfl) (Nat.le_of_ble_eq_true rfl) dX5_init_7 (fun q1 cA2 H hK hP hD hS => ?_)
  have hP : va_P (dC, dI) pcl [(h0, .inr (6, [.null, .null, .int 0, .int 0])), (q1, .inl (cA2, 40, .inl (fun _ => 0)))] H := hP
  have hD : va_D A [(h0, .inr (6, [.null, .null, .int 0, .int 0])), (q1, .inl (cA2, 40, .inl (fun _ => 0)))] := hD
  have hK : va_K (dC, dI) pcl [(cA2, .int)] s := hK
  refine W.widen (k := 1) (n := 40) (Nat.le_of_ble_eq_true rfl) (Nat.le_of_ble_eq_true rfl) ?_
  refine va_putF (D := (dC, dI)) (ci := 6) (v := .ref q1) (ty := .array .int) (C := RX5) (T := TX5) (N := 4) hx hb hts pinX5 tyX5 tyX5_ok nmX5 hown hK hP hD hS 0 rfl rfl 0 (by decide) (hts _ e51) (fun _ h9 => h9) rfl hin rfl (by decide +kernel) rfl rfl (Nat.le_of_ble_eq_true rfl) dX5_init_9 (fun H locs hP hD hS => ?_)
  have hP : va_P (dC, dI) pcl [(h0, .inr (6, [.ref q1, .null, .int 0, .int 0])), (q1, .inl (cA2, 40, .inl (fun _ => 0)))] H := hP
  have hD : va_D A [(h0, .inr (6, [.ref q1, .null, .int 0, .int 0])), (q1, .inl (cA2, 40, .inl (fun _ => 0)))] := hD
  refine lv_aload_n hx hb dX5_init_12 rfl (lv_at hl 0 rfl) ?_
  refine lv_bipush (v := 40) hx hb dX5_init_13 (by decide) ?_
  refine va_newa (atype := .int) (N' := 40) (a0 := (40, .inl (fun _ => 0))) hx hb (hts _ e3) rfl hK hP hD hS hA (fun _ => rfl) (by decide) (by decide) (Nat.le_of_ble_eq_true rfl) (Nat.le_of_ble_eq_true rfl) (Nat.le_of_ble_eq_true rfl) dX5_init_15 (fun q3 cA4 H hK hP hD hS => ?_)
  have hP : va_P (dC, dI) pcl [(h0, .inr (6, [.ref q1, .null, .int 0, .int 0])), (q1, .inl (cA2, 40, .inl (fun _ => 0))), (q3, .inl (cA4, 40, .inl (fun _ => 0)))] H := hP
  have hD : va_D A [(h0, .inr (6, [.ref q1, .null, .int 0, .int 0])), (q1, .inl (cA2, 40, .inl (fun _ => 0))), (q3, .inl (cA4, 40, .inl (fun _ => 0)))] := hD
  have hK : va_K (dC, dI) pcl [(cA2, .int), (cA4, .int)] s := hK
  refine W.widen (k := 2) (n := 80) (Nat.le_of_ble_eq_true rfl) (Nat.le_of_ble_eq_true rfl) ?_
  refine va_putF (D := (dC, dI)) (ci := 6) (v := .ref q3) (ty := .array .int) (C := RX5) (T := TX5) (N := 4) hx hb hts pinX5 tyX5 tyX5_ok nmX5 hown hK hP hD hS 0 rfl rfl 1 (by decide) (hts _ e52) (fun _ h9 => h9) rfl hin rfl (by decide +kernel) rfl rfl (Nat.le_of_ble_eq_true rfl) dX5_init_17 (fun H locs hP hD hS => ?_)
  have hP : va_P (dC, dI) pcl [(h0, .inr (6, [.ref q1, .ref q3, .int 0, .int 0])), (q1, .inl (cA2, 40, .inl (fun _ => 0))), (q3, .inl (cA4, 40, .inl (fun _ => 0)))] H := hP
  have hD : va_D A [(h0, .inr (6, [.ref q1, .ref q3, .int 0, .int 0])), (q1, .inl (cA2, 40, .inl (fun _ => 0))), (q3, .inl (cA4, 40, .inl (fun _ => 0)))] := hD
  have hP9 := hP.sub (ws' := [(h0, .inr (6, [.ref q1, .ref q3, .int 0, .int 0])), (q1, .inl (cA2, 40, .inl (fun _ => 0))), (q3, .inl (cA4, 40, .inl (fun _ => 0)))]) [0, 1, 2] rfl
  have hD9 := hD.sub (ws' := [(h0, .inr (6, [.ref q1, .ref q3, .int 0, .int 0])), (q1, .inl (cA2, 40, .inl (fun _ => 0))), (q3, .inl (cA4, 40, .inl (fun _ => 0)))]) [0, 1, 2] (by decide) rfl
  have hK9 := hK.sub (tys' := [(cA2, .int), (cA4, .int)]) [0, 1] rfl
  refine W.widen (k := 2) (n := 80) (Nat.le_of_ble_eq_true rfl) (Nat.le_of_ble_eq_true rfl) ?_
  exact W.vret hx hb hr (fun t ht hW => ⟨⟨(), rfl, trivial, q1, q3, cA2, cA4, by rw [ht]; exact hP9, va_K.moved hW.alike hK9, hD9⟩, hS.F ht⟩) hS.2.2 dX5_init_20
set_option maxHeartbeats 4000000 in
set_option maxRecDepth 100000 in
theorem c_X4_init (l : Launch) (dC : Nat → ClassId) (dI : Nat → Nat → Nat) (z : pG) (h0 : Nat) (m0 : Nat) (sz : Nat) : Met l yX4_init (ws_ yX4_init cX4_init 2 none) ({ frames := 1, cells := 3, slots := 91, locals := 12 }) (va_Pc [.ref h0, .ref m0] (pPre z dC dI [(h0, .inr (5, [.null, .null, .null, .null]))] [] sz)) (va_Qv (fun (_ : Unit) => True) (fun _ t => ∃ (a1 : Nat) (a2 : Nat) (a3 : Nat), pPost dC dI (va_A [(h0, .inr (5, [.null, .null, .null, .null]))] sz) [(h0, .inr (5, [.ref m0, .ref a1, .ref a2, .ref a3]))] [] t) (va_A [(h0, .inr (5, [.null, .null, .null, .null]))] sz)) 3 91 (va_A [(h0, .inr (5, [.null, .null, .null, .null]))] sz) := by
  refine Met.ofW (cc := cX4_init) (maxL := 2) (ret := none) (by decide) rfl ?_
  intro p e s m args below meth c s₁ B hml hv
  obtain ⟨rfl, hsz, hP, hK, hD0, hE⟩ := hv
  have hx := B.exec
  have hb := B.bytes
  have hr := B.returns
  have hts0 := atoms_spec (ws := ws_ yX4_init cX4_init 2 none) B.pre
  have hts := fun (w : Cond) (h : w ∈ pw) => hts0 w (List.mem_cons_of_mem _ h)
  have hown : s.vm.findClass RX4 = some m.cls := findClass_of_methodNamed B.named
  have hlocks := B.notSynchronized
  have hin : meth.name = "<init>" := (name_of_methodNamed B.named B.method).1
  subst hsz
  have hD := hD0.self (sz := s.heap.size)
  generalize hAe : va_A [(h0, .inr (5, [.null, .null, .null, .null]))] s.heap.size = A at hD hE ⊢
  have hA : ∀ q : Nat, s.heap.size ≤ q → A q := fun q h => by rw [← hAe]; exact Or.inr h
  have hS : va_S A s.heap s.heap [] := va_S.rf
  have hN := hE.1
  have hP : va_P (dC, dI) pcl [(h0, .inr (5, [.null, .null, .null, .null]))] s.heap := hP
  have hl := lv_entry ([.ref h0, .ref m0]) (n := 2) (Nat.le_of_ble_eq_true rfl)
  rw [lg_entry_eq]
  generalize (lg_sl ([.ref h0, .ref m0]) ++ List.replicate (2 - (lg_sl ([.ref h0, .ref m0])).length) Slot.unset).toArray = ls at hl ⊢
  have hl : lv_has ls 2 [(0, .ref h0), (1, .ref m0)] := hl
  obtain ⟨H, hH0⟩ : ∃ H, H = s.heap := ⟨_, rfl⟩
  rw [← hH0] at hP ⊢
  have hS : va_S A s.heap H [] := by rw [hH0]; exact hS
  refine lv_aload_n hx hb dX4_init_0 rfl (lv_at hl 0 rfl) ?_
  refine W.objInit hx hb hown (hts _ e45) (hts _ e1) (hts _ e2) rfl (by rw [hml]; exact hl.1) rfl dX4_init_1 (Nat.le_of_ble_eq_true rfl) (Nat.le_of_ble_eq_true rfl) ?_
  refine W.eq (g2 := F0 m 4 ls []) rfl ?_
  refine lv_aload_n hx hb dX4_init_4 rfl (lv_at hl 0 rfl) ?_
  refine lv_bipush (v := 30) hx hb dX4_init_5 (by decide) ?_
  refine va_newa (atype := .int) (N' := 30) (a0 := (30, .inl (fun _ => 0))) hx hb (hts _ e3) rfl hK hP hD hS hA (fun _ => rfl) (by decide) (by decide) (Nat.le_of_ble_eq_true rfl) (Nat.le_of_ble_eq_true rfl) (Nat.le_of_ble_eq_true rfl) dX4_init_7 (fun q1 cA2 H hK hP hD hS => ?_)
  have hP : va_P (dC, dI) pcl [(h0, .inr (5, [.null, .null, .null, .null])), (q1, .inl (cA2, 30, .inl (fun _ => 0)))] H := hP
  have hD : va_D A [(h0, .inr (5, [.null, .null, .null, .null])), (q1, .inl (cA2, 30, .inl (fun _ => 0)))] := hD
  have hK : va_K (dC, dI) pcl [(cA2, .int)] s := hK
  refine W.widen (k := 1) (n := 30) (Nat.le_of_ble_eq_true rfl) (Nat.le_of_ble_eq_true rfl) ?_
  refine va_putF (D := (dC, dI)) (ci := 5) (v := .ref q1) (ty := .array .int) (C := RX4) (T := TX4) (N := 4) hx hb hts pinX4 tyX4 tyX4_ok nmX4 hown hK hP hD hS 0 rfl rfl 1 (by decide) (hts _ e46) (fun _ h9 => h9) rfl hin rfl (by decide +kernel) rfl rfl (Nat.le_of_ble_eq_true rfl) dX4_init_9 (fun H locs hP hD hS => ?_)
  have hP : va_P (dC, dI) pcl [(h0, .inr (5, [.null, .ref q1, .null, .null])), (q1, .inl (cA2, 30, .inl (fun _ => 0)))] H := hP
  have hD : va_D A [(h0, .inr (5, [.null, .ref q1, .null, .null])), (q1, .inl (cA2, 30, .inl (fun _ => 0)))] := hD
  refine lv_aload_n hx hb dX4_init_12 rfl (lv_at hl 0 rfl) ?_
  refine lv_bipush (v := 30) hx hb dX4_init_13 (by decide) ?_
  refine va_newa (atype := .int) (N' := 30) (a0 := (30, .inl (fun _ => 0))) hx hb (hts _ e3) rfl hK hP hD hS hA (fun _ => rfl) (by decide) (by decide) (Nat.le_of_ble_eq_true rfl) (Nat.le_of_ble_eq_true rfl) (Nat.le_of_ble_eq_true rfl) dX4_init_15 (fun q3 cA4 H hK hP hD hS => ?_)
  have hP : va_P (dC, dI) pcl [(h0, .inr (5, [.null, .ref q1, .null, .null])), (q1, .inl (cA2, 30, .inl (fun _ => 0))), (q3, .inl (cA4, 30, .inl (fun _ => 0)))] H := hP
  have hD : va_D A [(h0, .inr (5, [.null, .ref q1, .null, .null])), (q1, .inl (cA2, 30, .inl (fun _ => 0))), (q3, .inl (cA4, 30, .inl (fun _ => 0)))] := hD
  have hK : va_K (dC, dI) pcl [(cA2, .int), (cA4, .int)] s := hK
  refine W.widen (k := 2) (n := 60) (Nat.le_of_ble_eq_true rfl) (Nat.le_of_ble_eq_true rfl) ?_
  refine va_putF (D := (dC, dI)) (ci := 5) (v := .ref q3) (ty := .array .int) (C := RX4) (T := TX4) (N := 4) hx hb hts pinX4 tyX4 tyX4_ok nmX4 hown hK hP hD hS 0 rfl rfl 2 (by decide) (hts _ e47) (fun _ h9 => h9) rfl hin rfl (by decide +kernel) rfl rfl (Nat.le_of_ble_eq_true rfl) dX4_init_17 (fun H locs hP hD hS => ?_)
  have hP : va_P (dC, dI) pcl [(h0, .inr (5, [.null, .ref q1, .ref q3, .null])), (q1, .inl (cA2, 30, .inl (fun _ => 0))), (q3, .inl (cA4, 30, .inl (fun _ => 0)))] H := hP
  have hD : va_D A [(h0, .inr (5, [.null, .ref q1, .ref q3, .null])), (q1, .inl (cA2, 30, .inl (fun _ => 0))), (q3, .inl (cA4, 30, .inl (fun _ => 0)))] := hD
  refine lv_aload_n hx hb dX4_init_20 rfl (lv_at hl 0 rfl) ?_
  refine lv_bipush (v := 31) hx hb dX4_init_21 (by decide) ?_
  refine va_newa (atype := .boolean) (N' := 31) (a0 := (31, .inl (fun _ => 0))) hx hb (hts _ e9) rfl hK hP hD hS hA (fun _ => rfl) (by decide) (by decide) (Nat.le_of_ble_eq_true rfl) (Nat.le_of_ble_eq_true rfl) (Nat.le_of_ble_eq_true rfl) dX4_init_23 (fun q5 cA6 H hK hP hD hS => ?_)
  have hP : va_P (dC, dI) pcl [(h0, .inr (5, [.null, .ref q1, .ref q3, .null])), (q1, .inl (cA2, 30, .inl (fun _ => 0))), (q3, .inl (cA4, 30, .inl (fun _ => 0))), (q5, .inl (cA6, 31, .inl (fun _ => 0)))] H := hP
  have hD : va_D A [(h0, .inr (5, [.null, .ref q1, .ref q3, .null])), (q1, .inl (cA2, 30, .inl (fun _ => 0))), (q3, .inl (cA4, 30, .inl (fun _ => 0))), (q5, .inl (cA6, 31, .inl (fun _ => 0)))] := hD
  have hK : va_K (dC, dI) pcl [(cA2, .int), (cA4, .int), (cA6, .boolean)] s := hK
  refine W.widen (k := 3) (n := 91) (Nat.le_of_ble_eq_true rfl) (Nat.le_of_ble_eq_true rfl) ?_
  refine va_putF (D := (dC, dI)) (ci := 5) (v := .ref q5) (ty := .array (.boolean)) (C := RX4) (T := TX4) (N := 4) hx hb hts pinX4 tyX4 tyX4_ok nmX4 hown hK hP hD hS 0 rfl rfl 3 (by decide) (hts _ e48) (fun _ h9 => h9) rfl hin rfl (by decide +kernel) rfl rfl (Nat.le_of_ble_eq_true rfl) dX4_init_25 (fun H locs hP hD hS => ?_)
  have hP : va_P (dC, dI) pcl [(h0, .inr (5, [.null, .ref q1, .ref q3, .ref q5])), (q1, .inl (cA2, 30, .inl (fun _ => 0))), (q3, .inl (cA4, 30, .inl (fun _ => 0))), (q5, .inl (cA6, 31, .inl (fun _ => 0)))] H := hP
  have hD : va_D A [(h0, .inr (5, [.null, .ref q1, .ref q3, .ref q5])), (q1, .inl (cA2, 30, .inl (fun _ => 0))), (q3, .inl (cA4, 30, .inl (fun _ => 0))), (q5, .inl (cA6, 31, .inl (fun _ => 0)))] := hD
  refine lv_aload_n hx hb dX4_init_28 rfl (lv_at hl 0 rfl) ?_
  refine lv_aload_n hx hb dX4_init_29 rfl (lv_at hl 1 rfl) ?_
  refine va_putF (D := (dC, dI)) (ci := 5) (v := .ref m0) (ty := .object "WordFoundry$Machine") (C := RX4) (T := TX4) (N := 4) hx hb hts pinX4 tyX4 tyX4_ok nmX4 hown hK hP hD hS 0 rfl rfl 0 (by decide) (hts _ e49) (fun _ h9 => h9) rfl hin rfl (by decide +kernel) rfl rfl (Nat.le_of_ble_eq_true rfl) dX4_init_30 (fun H locs hP hD hS => ?_)
  have hP : va_P (dC, dI) pcl [(h0, .inr (5, [.ref m0, .ref q1, .ref q3, .ref q5])), (q1, .inl (cA2, 30, .inl (fun _ => 0))), (q3, .inl (cA4, 30, .inl (fun _ => 0))), (q5, .inl (cA6, 31, .inl (fun _ => 0)))] H := hP
  have hD : va_D A [(h0, .inr (5, [.ref m0, .ref q1, .ref q3, .ref q5])), (q1, .inl (cA2, 30, .inl (fun _ => 0))), (q3, .inl (cA4, 30, .inl (fun _ => 0))), (q5, .inl (cA6, 31, .inl (fun _ => 0)))] := hD
  have hP9 := hP.sub (ws' := [(h0, .inr (5, [.ref m0, .ref q1, .ref q3, .ref q5]))]) [0] rfl
  have hD9 := hD.sub (ws' := [(h0, .inr (5, [.ref m0, .ref q1, .ref q3, .ref q5]))]) [0] (by decide) rfl
  have hK9 := hK.sub (tys' := []) [] rfl
  refine W.widen (k := 3) (n := 91) (Nat.le_of_ble_eq_true rfl) (Nat.le_of_ble_eq_true rfl) ?_
  exact W.vret hx hb hr (fun t ht hW => ⟨⟨(), rfl, trivial, q1, q3, q5, by rw [ht]; exact hP9, va_K.moved hW.alike hK9, hD9⟩, hS.F ht⟩) hS.2.2 dX4_init_33
set_option maxHeartbeats 4000000 in
set_option maxRecDepth 100000 in
theorem c_X8_init (l : Launch) (dC : Nat → ClassId) (dI : Nat → Nat → Nat) (z : pG) (h0 : Nat) (m0 : Nat) (sz : Nat) : Met l yX8_init (ws_ yX8_init cX8_init 2 none) ({ frames := 1, cells := 0, slots := 0, locals := 12 }) (va_Pc [.ref h0, .ref m0] (pPre z dC dI [(h0, .inr (9, [.null]))] [] sz)) (va_Qv (fun (_ : Unit) => True) (fun _ t => pPost dC dI (va_A [(h0, .inr (9, [.null]))] sz) [(h0, .inr (9, [.ref m0]))] [] t) (va_A [(h0, .inr (9, [.null]))] sz)) 0 0 (va_A [(h0, .inr (9, [.null]))] sz) := by
  refine Met.ofW (cc := cX8_init) (maxL := 2) (ret := none) (by decide) rfl ?_
  intro p e s m args below meth c s₁ B hml hv
  obtain ⟨rfl, hsz, hP, hK, hD0, hE⟩ := hv
  have hx := B.exec
  have hb := B.bytes
  have hr := B.returns
  have hts0 := atoms_spec (ws := ws_ yX8_init cX8_init 2 none) B.pre
  have hts := fun (w : Cond) (h : w ∈ pw) => hts0 w (List.mem_cons_of_mem _ h)
  have hown : s.vm.findClass RX8 = some m.cls := findClass_of_methodNamed B.named
  have hlocks := B.notSynchronized
  have hin : meth.name = "<init>" := (name_of_methodNamed B.named B.method).1
  subst hsz
  have hD := hD0.self (sz := s.heap.size)
  generalize hAe : va_A [(h0, .inr (9, [.null]))] s.heap.size = A at hD hE ⊢
  have hA : ∀ q : Nat, s.heap.size ≤ q → A q := fun q h => by rw [← hAe]; exact Or.inr h
  have hS : va_S A s.heap s.heap [] := va_S.rf
  have hN := hE.1
  have hP : va_P (dC, dI) pcl [(h0, .inr (9, [.null]))] s.heap := hP
  have hl := lv_entry ([.ref h0, .ref m0]) (n := 2) (Nat.le_of_ble_eq_true rfl)
  rw [lg_entry_eq]
  generalize (lg_sl ([.ref h0, .ref m0]) ++ List.replicate (2 - (lg_sl ([.ref h0, .ref m0])).length) Slot.unset).toArray = ls at hl ⊢
  have hl : lv_has ls 2 [(0, .ref h0), (1, .ref m0)] := hl
  obtain ⟨H, hH0⟩ : ∃ H, H = s.heap := ⟨_, rfl⟩
  rw [← hH0] at hP ⊢
  have hS : va_S A s.heap H [] := by rw [hH0]; exact hS
  refine lv_aload_n hx hb dX8_init_0 rfl (lv_at hl 0 rfl) ?_
  refine W.objInit hx hb hown (hts _ e92) (hts _ e1) (hts _ e2) rfl (by rw [hml]; exact hl.1) rfl dX8_init_1 (Nat.le_of_ble_eq_true rfl) (Nat.le_of_ble_eq_true rfl) ?_
  refine W.eq (g2 := F0 m 4 ls []) rfl ?_
  refine lv_aload_n hx hb dX8_init_4 rfl (lv_at hl 0 rfl) ?_
  refine lv_aload_n hx hb dX8_init_5 rfl (lv_at hl 1 rfl) ?_
  refine va_putF (D := (dC, dI)) (ci := 9) (v := .ref m0) (ty := .object "WordFoundry$Machine") (C := RX8) (T := TX8) (N := 1) hx hb hts pinX8 tyX8 tyX8_ok nmX8 hown hK hP hD hS 0 rfl rfl 0 (by decide) (hts _ e93) (fun _ h9 => h9) rfl hin rfl (by decide +kernel) rfl rfl (Nat.le_of_ble_eq_true rfl) dX8_init_6 (fun H locs hP hD hS => ?_)
  have hP : va_P (dC, dI) pcl [(h0, .inr (9, [.ref m0]))] H := hP
  have hD : va_D A [(h0, .inr (9, [.ref m0]))] := hD
  have hP9 := hP.sub (ws' := [(h0, .inr (9, [.ref m0]))]) [0] rfl
  have hD9 := hD.sub (ws' := [(h0, .inr (9, [.ref m0]))]) [0] (by decide) rfl
  have hK9 := hK.sub (tys' := []) [] rfl
  refine W.widen (k := 0) (n := 0) (Nat.le_of_ble_eq_true rfl) (Nat.le_of_ble_eq_true rfl) ?_
  exact W.vret hx hb hr (fun t ht hW => ⟨⟨(), rfl, trivial, by rw [ht]; exact hP9, va_K.moved hW.alike hK9, hD9⟩, hS.F ht⟩) hS.2.2 dX8_init_9
end
section
set_option maxHeartbeats 4000000 in
set_option maxRecDepth 100000 in
theorem c_X6_init (l : Launch) (dC : Nat → ClassId) (dI : Nat → Nat → Nat) (z : pG) (h0 : Nat) (most : Int32) (sz : Nat) : Met l yX6_init (ws_ yX6_init cX6_init 2 none) ({ frames := 2, cells := 34, slots := 6300, locals := 32 }) (va_Pc [.ref h0, .int most] (pPre z dC dI [(h0, .inr (7, [.null, .null, .null, .null, .null, .null, .null, .null, .null, .int 0, .int 0, .int 0, .int 0, .int 0, .int 0, .int 0]))] [] sz)) (va_Qv (fun (_ : Unit) => True) (fun _ t => ∃ (fi : Nat) (se : Nat) (ce : Nat) (pr : Nat) (di : Nat) (dr : Nat) (li : Nat) (ru : Nat) (ba : Nat) (b1 : Nat) (b2 : Nat) (b3 : Nat) (b4 : Nat) (b5 : Nat) (b6 : Nat) (b7 : Nat) (g1 : Nat) (g2 : Nat) (g3 : Nat) (g4 : Nat) (g5 : Nat) (g6 : Nat) (g7 : Nat) (g8 : Nat) (g9 : Nat) (g10 : Nat) (k1 : Nat) (k2 : Nat) (k3 : Nat) (k4 : Nat) (k5 : Nat) (k6 : Nat) (so : Nat) (va : Nat) (cB : ClassId) (cC : ClassId) (cD : ClassId), pPost dC dI (va_A [(h0, .inr (7, [.null, .null, .null, .null, .null, .null, .null, .null, .null, .int 0, .int 0, .int 0, .int 0, .int 0, .int 0, .int 0]))] sz) [(h0, .inr (7, [.ref fi, .ref se, .ref ce, .ref pr, .ref di, .ref dr, .ref li, .ref ru, .ref ba, .int most, .int 0, .int 0, .int 0, .int 0, .int 0, .int 0])), (fi, .inr (11, [.ref b1, .ref b2, .ref b3, .int 0])), (se, .inr (11, [.ref b4, .ref b5, .ref b6, .int 0])), (ce, .inl (cB, 100, .inl (fun _ => 0))), (pr, .inr (8, [.ref b7, .int 0])), (di, .inr (2, [.ref g1, .ref g2, .ref g3, .ref g4, .ref g5, .ref g6, .ref g7, .ref g8, .ref g9, .ref g10, .int 0, .int 0, .int 0])), (dr, .inr (3, [.ref k1, .ref k2, .ref k3, .ref k4, .ref k5, .ref k6, .int 0, .int 0, .int 0, .int 0, .int 0])), (li, .inr (6, [.ref so, .ref va, .int 0, .int 0])), (so, .inl (cC, 40, .inl (fun _ => 0))), (va, .inl (cD, 40, .inl (fun _ => 0)))] [(cB, .int), (cC, .int), (cD, .int)] t) (va_A [(h0, .inr (7, [.null, .null, .null, .null, .null, .null, .null, .null, .null, .int 0, .int 0, .int 0, .int 0, .int 0, .int 0, .int 0]))] sz)) 34 6300 (va_A [(h0, .inr (7, [.null, .null, .null, .null, .null, .null, .null, .null, .null, .int 0, .int 0, .int 0, .int 0, .int 0, .int 0, .int 0]))] sz) := by
  refine Met.ofW (cc := cX6_init) (maxL := 2) (ret := none) (by decide) rfl ?_
  intro p e s m args below meth c s₁ B hml hv
  obtain ⟨rfl, hsz, hP, hK, hD0, hE⟩ := hv
  have hx := B.exec
  have hb := B.bytes
  have hr := B.returns
  have hts0 := atoms_spec (ws := ws_ yX6_init cX6_init 2 none) B.pre
  have hts := fun (w : Cond) (h : w ∈ pw) => hts0 w (List.mem_cons_of_mem _ h)
  have hown : s.vm.findClass RX6 = some m.cls := findClass_of_methodNamed B.named
  have hlocks := B.notSynchronized
  have hin : meth.name = "<init>" := (name_of_methodNamed B.named B.method).1
  subst hsz
  have hD := hD0.self (sz := s.heap.size)
  generalize hAe : va_A [(h0, .inr (7, [.null, .null, .null, .null, .null, .null, .null, .null, .null, .int 0, .int 0, .int 0, .int 0, .int 0, .int 0, .int 0]))] s.heap.size = A at hD hE ⊢
  have hA : ∀ q : Nat, s.heap.size ≤ q → A q := fun q h => by rw [← hAe]; exact Or.inr h
  have hS : va_S A s.heap s.heap [] := va_S.rf
  have hN := hE.1
  have hP : va_P (dC, dI) pcl [(h0, .inr (7, [.null, .null, .null, .null, .null, .null, .null, .null, .null, .int 0, .int 0, .int 0, .int 0, .int 0, .int 0, .int 0]))] s.heap := hP
  have hl := lv_entry ([.ref h0, .int most]) (n := 2) (Nat.le_of_ble_eq_true rfl)
  rw [lg_entry_eq]
  generalize (lg_sl ([.ref h0, .int most]) ++ List.replicate (2 - (lg_sl ([.ref h0, .int most])).length) Slot.unset).toArray = ls at hl ⊢
  have hl : lv_has ls 2 [(0, .ref h0), (1, .int most)] := hl
  obtain ⟨H, hH0⟩ : ∃ H, H = s.heap := ⟨_, rfl⟩
  rw [← hH0] at hP ⊢
  have hS : va_S A s.heap H [] := by rw [hH0]; exact hS
  refine lv_aload_n hx hb dX6_init_0 rfl (lv_at hl 0 rfl) ?_
  refine W.objInit hx hb hown (hts _ e55) (hts _ e1) (hts _ e2) rfl (by rw [hml]; exact hl.1) rfl dX6_init_1 (Nat.le_of_ble_eq_true rfl) (Nat.le_of_ble_eq_true rfl) ?_
  refine W.eq (g2 := F0 m 4 ls []) rfl ?_
  refine lv_aload_n hx hb dX6_init_4 rfl (lv_at hl 0 rfl) ?_
  refine va_new (ci := 11) (fs := [.null, .null, .null, .int 0]) (C := RX10) (T := TX10) (N := 4) hx hb hts pinX10 tyX10 tyX10_ok hown (hts _ e56) (hts _ e57) (hts _ e58) hK hP hD hS hA rfl (fun j hj => by rcases (show j = 0 ∨ j = 1 ∨ j = 2 ∨ j = 3 by omega) with rfl | rfl | rfl | rfl <;> rfl) (Nat.le_of_ble_eq_true rfl) (Nat.le_of_ble_eq_true rfl) dX6_init_5 (fun q1 H hP hD hS => ?_)
  have hP : va_P (dC, dI) pcl [(h0, .inr (7, [.null, .null, .null, .null, .null, .null, .null, .null, .null, .int 0, .int 0, .int 0, .int 0, .int 0, .int 0, .int 0])), (q1, .inr (11, [.null, .null, .null, .int 0]))] H := hP
  have hD : va_D A [(h0, .inr (7, [.null, .null, .null, .null, .null, .null, .null, .null, .null, .int 0, .int 0, .int 0, .int 0, .int 0, .int 0, .int 0])), (q1, .inr (11, [.null, .null, .null, .int 0]))] := hD
  refine W.widen (k := 1) (n := 4) (Nat.le_of_ble_eq_true rfl) (Nat.le_of_ble_eq_true rfl) ?_
  refine lv_dup hx hb dX6_init_8 rfl ?_
  have hPc := hP.sub (ws' := [(q1, .inr (11, [.null, .null, .null, .int 0]))]) [1] rfl
  have hDc := hD.sub (ws' := [(q1, .inr (11, [.null, .null, .null, .int 0]))]) [1] (by decide) rfl
  have hKc := hK.sub (tys' := []) [] rfl
  have hFc := va_free (wc := [(q1, .inr (11, [.null, .null, .null, .int 0]))]) hD hS hA [1] rfl
  refine va_callv (va_runIN (As := []) (rest := [.ref q1, .ref h0]) ⟨hx, hb, hml, hown, hts⟩ (c_X10_init l dC dI z q1 H.size) ⟨va_cnB 0 hts (ws_good e60) rfl rfl rfl (hN _ n3) (hts _ e58) ⟨by decide +kernel, by decide +kernel, by decide +kernel⟩ ⟨Nat.le_of_ble_eq_true rfl, Nat.le_of_ble_eq_true rfl⟩, rfl, (hts _ e59)⟩ ⟨pPre_blind, fun U hU hW => ⟨rfl, pPre_at hPc hKc hDc hE hS hFc U hU hW⟩⟩ rfl rfl hl.1 rfl (lv_room (Nat.le_of_ble_eq_true rfl)) dX6_init_9 ⟨Nat.le_of_ble_eq_true rfl, Nat.le_of_ble_eq_true rfl⟩) hS (fun q _ h => hFc q h) hFc (fun u t H1 locs ht hvm hw hB hz1 hk1 hS => ?_)
  obtain ⟨q3, q4, q5, hP1, hK1, hD1⟩ := hB
  rw [ht] at hP1
  have hK1 := va_K.moved hvm.symm hK1
  obtain ⟨hP, hD⟩ := va_join (wr := [(h0, .inr (7, [.null, .null, .null, .null, .null, .null, .null, .null, .null, .int 0, .int 0, .int 0, .int 0, .int 0, .int 0, .int 0]))]) (w1 := [(q1, .inr (11, [.ref q3, .ref q4, .ref q5, .int 0]))]) hP hD [1] [0] rfl rfl (by decide) (by decide) hk1 hFc hP1 hD1
  have hK := hK.app hK1
  generalize H1 = H at hP hS ⊢
  have hP : va_P (dC, dI) pcl [(h0, .inr (7, [.null, .null, .null, .null, .null, .null, .null, .null, .null, .int 0, .int 0, .int 0, .int 0, .int 0, .int 0, .int 0])), (q1, .inr (11, [.ref q3, .ref q4, .ref q5, .int 0]))] H := hP
  have hD : va_D A [(h0, .inr (7, [.null, .null, .null, .null, .null, .null, .null, .null, .null, .int 0, .int 0, .int 0, .int 0, .int 0, .int 0, .int 0])), (q1, .inr (11, [.ref q3, .ref q4, .ref q5, .int 0]))] := hD
  have hK : va_K (dC, dI) pcl [] s := hK
  refine W.widen (k := 4) (n := 1315) (Nat.le_of_ble_eq_true rfl) (Nat.le_of_ble_eq_true rfl) ?_
  refine va_putF (D := (dC, dI)) (ci := 7) (v := .ref q1) (ty := .object "WordFoundry$Stack") (C := RX6) (T := TX6) (N := 16) hx hb hts pinX6 tyX6 tyX6_ok nmX6 hown hK hP hD hS 0 rfl rfl 0 (by decide) (hts _ e61) (fun _ h9 => h9) rfl hin rfl (by decide +kernel) rfl rfl (Nat.le_of_ble_eq_true rfl) dX6_init_12 (fun H locs hP hD hS => ?_)
  have hP : va_P (dC, dI) pcl [(h0, .inr (7, [.ref q1, .null, .null, .null, .null, .null, .null, .null, .null, .int 0, .int 0, .int 0, .int 0, .int 0, .int 0, .int 0])), (q1, .inr (11, [.ref q3, .ref q4, .ref q5, .int 0]))] H := hP
  have hD : va_D A [(h0, .inr (7, [.ref q1, .null, .null, .null, .null, .null, .null, .null, .null, .int 0, .int 0, .int 0, .int 0, .int 0, .int 0, .int 0])), (q1, .inr (11, [.ref q3, .ref q4, .ref q5, .int 0]))] := hD
  refine lv_aload_n hx hb dX6_init_15 rfl (lv_at hl 0 rfl) ?_
  refine va_new (ci := 11) (fs := [.null, .null, .null, .int 0]) (C := RX10) (T := TX10) (N := 4) hx hb hts pinX10 tyX10 tyX10_ok hown (hts _ e56) (hts _ e57) (hts _ e58) hK hP hD hS hA rfl (fun j hj => by rcases (show j = 0 ∨ j = 1 ∨ j = 2 ∨ j = 3 by omega) with rfl | rfl | rfl | rfl <;> rfl) (Nat.le_of_ble_eq_true rfl) (Nat.le_of_ble_eq_true rfl) dX6_init_16 (fun q6 H hP hD hS => ?_)
  have hP : va_P (dC, dI) pcl [(h0, .inr (7, [.ref q1, .null, .null, .null, .null, .null, .null, .null, .null, .int 0, .int 0, .int 0, .int 0, .int 0, .int 0, .int 0])), (q1, .inr (11, [.ref q3, .ref q4, .ref q5, .int 0])), (q6, .inr (11, [.null, .null, .null, .int 0]))] H := hP
  have hD : va_D A [(h0, .inr (7, [.ref q1, .null, .null, .null, .null, .null, .null, .null, .null, .int 0, .int 0, .int 0, .int 0, .int 0, .int 0, .int 0])), (q1, .inr (11, [.ref q3, .ref q4, .ref q5, .int 0])), (q6, .inr (11, [.null, .null, .null, .int 0]))] := hD
  refine W.widen (k := 5) (n := 1319) (Nat.le_of_ble_eq_true rfl) (Nat.le_of_ble_eq_true rfl) ?_
  refine lv_dup hx hb dX6_init_19 rfl ?_
  have hPc := hP.sub (ws' := [(q6, .inr (11, [.null, .null, .null, .int 0]))]) [2] rfl
  have hDc := hD.sub (ws' := [(q6, .inr (11, [.null, .null, .null, .int 0]))]) [2] (by decide) rfl
  have hKc := hK.sub (tys' := []) [] rfl
  have hFc := va_free (wc := [(q6, .inr (11, [.null, .null, .null, .int 0]))]) hD hS hA [2] rfl
  refine va_callv (va_runIN (As := []) (rest := [.ref q6, .ref h0]) ⟨hx, hb, hml, hown, hts⟩ (c_X10_init l dC dI z q6 H.size) ⟨va_cnB 0 hts (ws_good e60) rfl rfl rfl (hN _ n3) (hts _ e58) ⟨by decide +kernel, by decide +kernel, by decide +kernel⟩ ⟨Nat.le_of_ble_eq_true rfl, Nat.le_of_ble_eq_true rfl⟩, rfl, (hts _ e59)⟩ ⟨pPre_blind, fun U hU hW => ⟨rfl, pPre_at hPc hKc hDc hE hS hFc U hU hW⟩⟩ rfl rfl hl.1 rfl (lv_room (Nat.le_of_ble_eq_true rfl)) dX6_init_20 ⟨Nat.le_of_ble_eq_true rfl, Nat.le_of_ble_eq_true rfl⟩) hS (fun q _ h => hFc q h) hFc (fun u t H1 locs ht hvm hw hB hz1 hk1 hS => ?_)
  obtain ⟨q8, q9, q10, hP1, hK1, hD1⟩ := hB
  rw [ht] at hP1
  have hK1 := va_K.moved hvm.symm hK1
  obtain ⟨hP, hD⟩ := va_join (wr := [(h0, .inr (7, [.ref q1, .null, .null, .null, .null, .null, .null, .null, .null, .int 0, .int 0, .int 0, .int 0, .int 0, .int 0, .int 0])), (q1, .inr (11, [.ref q3, .ref q4, .ref q5, .int 0]))]) (w1 := [(q6, .inr (11, [.ref q8, .ref q9, .ref q10, .int 0]))]) hP hD [2] [0, 1] rfl rfl (by decide) (by decide) hk1 hFc hP1 hD1
  have hK := hK.app hK1
  generalize H1 = H at hP hS ⊢
  have hP : va_P (dC, dI) pcl [(h0, .inr (7, [.ref q1, .null, .null, .null, .null, .null, .null, .null, .null, .int 0, .int 0, .int 0, .int 0, .int 0, .int 0, .int 0])), (q1, .inr (11, [.ref q3, .ref q4, .ref q5, .int 0])), (q6, .inr (11, [.ref q8, .ref q9, .ref q10, .int 0]))] H := hP
  have hD : va_D A [(h0, .inr (7, [.ref q1, .null, .null, .null, .null, .null, .null, .null, .null, .int 0, .int 0, .int 0, .int 0, .int 0, .int 0, .int 0])), (q1, .inr (11, [.ref q3, .ref q4, .ref q5, .int 0])), (q6, .inr (11, [.ref q8, .ref q9, .ref q10, .int 0]))] := hD
  have hK : va_K (dC, dI) pcl [] s := hK
  refine W.widen (k := 8) (n := 2630) (Nat.le_of_ble_eq_true rfl) (Nat.le_of_ble_eq_true rfl) ?_
  refine va_putF (D := (dC, dI)) (ci := 7) (v := .ref q6) (ty := .object "WordFoundry$Stack") (C := RX6) (T := TX6) (N := 16) hx hb hts pinX6 tyX6 tyX6_ok nmX6 hown hK hP hD hS 0 rfl rfl 1 (by decide) (hts _ e62) (fun _ h9 => h9) rfl hin rfl (by decide +kernel) rfl rfl (Nat.le_of_ble_eq_true rfl) dX6_init_23 (fun H locs hP hD hS => ?_)
  have hP : va_P (dC, dI) pcl [(h0, .inr (7, [.ref q1, .ref q6, .null, .null, .null, .null, .null, .null, .null, .int 0, .int 0, .int 0, .int 0, .int 0, .int 0, .int 0])), (q1, .inr (11, [.ref q3, .ref q4, .ref q5, .int 0])), (q6, .inr (11, [.ref q8, .ref q9, .ref q10, .int 0]))] H := hP
  have hD : va_D A [(h0, .inr (7, [.ref q1, .ref q6, .null, .null, .null, .null, .null, .null, .null, .int 0, .int 0, .int 0, .int 0, .int 0, .int 0, .int 0])), (q1, .inr (11, [.ref q3, .ref q4, .ref q5, .int 0])), (q6, .inr (11, [.ref q8, .ref q9, .ref q10, .int 0]))] := hD
  refine lv_aload_n hx hb dX6_init_26 rfl (lv_at hl 0 rfl) ?_
  refine lv_bipush (v := 100) hx hb dX6_init_27 (by decide) ?_
  refine va_newa (atype := .int) (N' := 100) (a0 := (100, .inl (fun _ => 0))) hx hb (hts _ e3) rfl hK hP hD hS hA (fun _ => rfl) (by decide) (by decide) (Nat.le_of_ble_eq_true rfl) (Nat.le_of_ble_eq_true rfl) (Nat.le_of_ble_eq_true rfl) dX6_init_29 (fun q11 cA12 H hK hP hD hS => ?_)
  have hP : va_P (dC, dI) pcl [(h0, .inr (7, [.ref q1, .ref q6, .null, .null, .null, .null, .null, .null, .null, .int 0, .int 0, .int 0, .int 0, .int 0, .int 0, .int 0])), (q1, .inr (11, [.ref q3, .ref q4, .ref q5, .int 0])), (q6, .inr (11, [.ref q8, .ref q9, .ref q10, .int 0])), (q11, .inl (cA12, 100, .inl (fun _ => 0)))] H := hP
  have hD : va_D A [(h0, .inr (7, [.ref q1, .ref q6, .null, .null, .null, .null, .null, .null, .null, .int 0, .int 0, .int 0, .int 0, .int 0, .int 0, .int 0])), (q1, .inr (11, [.ref q3, .ref q4, .ref q5, .int 0])), (q6, .inr (11, [.ref q8, .ref q9, .ref q10, .int 0])), (q11, .inl (cA12, 100, .inl (fun _ => 0)))] := hD
  have hK : va_K (dC, dI) pcl [(cA12, .int)] s := hK
  refine W.widen (k := 9) (n := 2730) (Nat.le_of_ble_eq_true rfl) (Nat.le_of_ble_eq_true rfl) ?_
  refine va_putF (D := (dC, dI)) (ci := 7) (v := .ref q11) (ty := .array .int) (C := RX6) (T := TX6) (N := 16) hx hb hts pinX6 tyX6 tyX6_ok nmX6 hown hK hP hD hS 0 rfl rfl 2 (by decide) (hts _ e63) (fun _ h9 => h9) rfl hin rfl (by decide +kernel) rfl rfl (Nat.le_of_ble_eq_true rfl) dX6_init_31 (fun H locs hP hD hS => ?_)
  have hP : va_P (dC, dI) pcl [(h0, .inr (7, [.ref q1, .ref q6, .ref q11, .null, .null, .null, .null, .null, .null, .int 0, .int 0, .int 0, .int 0, .int 0, .int 0, .int 0])), (q1, .inr (11, [.ref q3, .ref q4, .ref q5, .int 0])), (q6, .inr (11, [.ref q8, .ref q9, .ref q10, .int 0])), (q11, .inl (cA12, 100, .inl (fun _ => 0)))] H := hP
  have hD : va_D A [(h0, .inr (7, [.ref q1, .ref q6, .ref q11, .null, .null, .null, .null, .null, .null, .int 0, .int 0, .int 0, .int 0, .int 0, .int 0, .int 0])), (q1, .inr (11, [.ref q3, .ref q4, .ref q5, .int 0])), (q6, .inr (11, [.ref q8, .ref q9, .ref q10, .int 0])), (q11, .inl (cA12, 100, .inl (fun _ => 0)))] := hD
  refine lv_aload_n hx hb dX6_init_34 rfl (lv_at hl 0 rfl) ?_
  refine va_new (ci := 8) (fs := [.null, .int 0]) (C := RX7) (T := TX7) (N := 2) hx hb hts pinX7 tyX7 tyX7_ok hown (hts _ e64) (hts _ e65) (hts _ e66) hK hP hD hS hA rfl (fun j hj => by rcases (show j = 0 ∨ j = 1 by omega) with rfl | rfl <;> rfl) (Nat.le_of_ble_eq_true rfl) (Nat.le_of_ble_eq_true rfl) dX6_init_35 (fun q13 H hP hD hS => ?_)
  have hP : va_P (dC, dI) pcl [(h0, .inr (7, [.ref q1, .ref q6, .ref q11, .null, .null, .null, .null, .null, .null, .int 0, .int 0, .int 0, .int 0, .int 0, .int 0, .int 0])), (q1, .inr (11, [.ref q3, .ref q4, .ref q5, .int 0])), (q6, .inr (11, [.ref q8, .ref q9, .ref q10, .int 0])), (q11, .inl (cA12, 100, .inl (fun _ => 0))), (q13, .inr (8, [.null, .int 0]))] H := hP
  have hD : va_D A [(h0, .inr (7, [.ref q1, .ref q6, .ref q11, .null, .null, .null, .null, .null, .null, .int 0, .int 0, .int 0, .int 0, .int 0, .int 0, .int 0])), (q1, .inr (11, [.ref q3, .ref q4, .ref q5, .int 0])), (q6, .inr (11, [.ref q8, .ref q9, .ref q10, .int 0])), (q11, .inl (cA12, 100, .inl (fun _ => 0))), (q13, .inr (8, [.null, .int 0]))] := hD
  refine W.widen (k := 10) (n := 2732) (Nat.le_of_ble_eq_true rfl) (Nat.le_of_ble_eq_true rfl) ?_
  refine lv_dup hx hb dX6_init_38 rfl ?_
  have hPc := hP.sub (ws' := [(q13, .inr (8, [.null, .int 0]))]) [4] rfl
  have hDc := hD.sub (ws' := [(q13, .inr (8, [.null, .int 0]))]) [4] (by decide) rfl
  have hKc := hK.sub (tys' := []) [] rfl
  have hFc := va_free (wc := [(q13, .inr (8, [.null, .int 0]))]) hD hS hA [4] rfl
  refine va_callv (va_runIN (As := []) (rest := [.ref q13, .ref h0]) ⟨hx, hb, hml, hown, hts⟩ (c_X7_init l dC dI z q13 H.size) ⟨va_cnB 0 hts (ws_good e68) rfl rfl rfl (hN _ n4) (hts _ e66) ⟨by decide +kernel, by decide +kernel, by decide +kernel⟩ ⟨Nat.le_of_ble_eq_true rfl, Nat.le_of_ble_eq_true rfl⟩, rfl, (hts _ e67)⟩ ⟨pPre_blind, fun U hU hW => ⟨rfl, pPre_at hPc hKc hDc hE hS hFc U hU hW⟩⟩ rfl rfl hl.1 rfl (lv_room (Nat.le_of_ble_eq_true rfl)) dX6_init_39 ⟨Nat.le_of_ble_eq_true rfl, Nat.le_of_ble_eq_true rfl⟩) hS (fun q _ h => hFc q h) hFc (fun u t H1 locs ht hvm hw hB hz1 hk1 hS => ?_)
  obtain ⟨q15, hP1, hK1, hD1⟩ := hB
  rw [ht] at hP1
  have hK1 := va_K.moved hvm.symm hK1
  obtain ⟨hP, hD⟩ := va_join (wr := [(h0, .inr (7, [.ref q1, .ref q6, .ref q11, .null, .null, .null, .null, .null, .null, .int 0, .int 0, .int 0, .int 0, .int 0, .int 0, .int 0])), (q1, .inr (11, [.ref q3, .ref q4, .ref q5, .int 0])), (q6, .inr (11, [.ref q8, .ref q9, .ref q10, .int 0])), (q11, .inl (cA12, 100, .inl (fun _ => 0)))]) (w1 := [(q13, .inr (8, [.ref q15, .int 0]))]) hP hD [4] [0, 1, 2, 3] rfl rfl (by decide) (by decide) hk1 hFc hP1 hD1
  have hK := hK.app hK1
  generalize H1 = H at hP hS ⊢
  have hP : va_P (dC, dI) pcl [(h0, .inr (7, [.ref q1, .ref q6, .ref q11, .null, .null, .null, .null, .null, .null, .int 0, .int 0, .int 0, .int 0, .int 0, .int 0, .int 0])), (q1, .inr (11, [.ref q3, .ref q4, .ref q5, .int 0])), (q6, .inr (11, [.ref q8, .ref q9, .ref q10, .int 0])), (q11, .inl (cA12, 100, .inl (fun _ => 0))), (q13, .inr (8, [.ref q15, .int 0]))] H := hP
  have hD : va_D A [(h0, .inr (7, [.ref q1, .ref q6, .ref q11, .null, .null, .null, .null, .null, .null, .int 0, .int 0, .int 0, .int 0, .int 0, .int 0, .int 0])), (q1, .inr (11, [.ref q3, .ref q4, .ref q5, .int 0])), (q6, .inr (11, [.ref q8, .ref q9, .ref q10, .int 0])), (q11, .inl (cA12, 100, .inl (fun _ => 0))), (q13, .inr (8, [.ref q15, .int 0]))] := hD
  have hK : va_K (dC, dI) pcl [(cA12, .int)] s := hK
  refine W.widen (k := 11) (n := 2892) (Nat.le_of_ble_eq_true rfl) (Nat.le_of_ble_eq_true rfl) ?_
  refine va_putF (D := (dC, dI)) (ci := 7) (v := .ref q13) (ty := .object "WordFoundry$Printed") (C := RX6) (T := TX6) (N := 16) hx hb hts pinX6 tyX6 tyX6_ok nmX6 hown hK hP hD hS 0 rfl rfl 3 (by decide) (hts _ e69) (fun _ h9 => h9) rfl hin rfl (by decide +kernel) rfl rfl (Nat.le_of_ble_eq_true rfl) dX6_init_42 (fun H locs hP hD hS => ?_)
  have hP : va_P (dC, dI) pcl [(h0, .inr (7, [.ref q1, .ref q6, .ref q11, .ref q13, .null, .null, .null, .null, .null, .int 0, .int 0, .int 0, .int 0, .int 0, .int 0, .int 0])), (q1, .inr (11, [.ref q3, .ref q4, .ref q5, .int 0])), (q6, .inr (11, [.ref q8, .ref q9, .ref q10, .int 0])), (q11, .inl (cA12, 100, .inl (fun _ => 0))), (q13, .inr (8, [.ref q15, .int 0]))] H := hP
  have hD : va_D A [(h0, .inr (7, [.ref q1, .ref q6, .ref q11, .ref q13, .null, .null, .null, .null, .null, .int 0, .int 0, .int 0, .int 0, .int 0, .int 0, .int 0])), (q1, .inr (11, [.ref q3, .ref q4, .ref q5, .int 0])), (q6, .inr (11, [.ref q8, .ref q9, .ref q10, .int 0])), (q11, .inl (cA12, 100, .inl (fun _ => 0))), (q13, .inr (8, [.ref q15, .int 0]))] := hD
  refine lv_aload_n hx hb dX6_init_45 rfl (lv_at hl 0 rfl) ?_
  refine va_new (ci := 2) (fs := [.null, .null, .null, .null, .null, .null, .null, .null, .null, .null, .int 0, .int 0, .int 0]) (C := RX1) (T := TX1) (N := 13) hx hb hts pinX1 tyX1 tyX1_ok hown (hts _ e70) (hts _ e71) (hts _ e20) hK hP hD hS hA rfl (fun j hj => by rcases (show j = 0 ∨ j = 1 ∨ j = 2 ∨ j = 3 ∨ j = 4 ∨ j = 5 ∨ j = 6 ∨ j = 7 ∨ j = 8 ∨ j = 9 ∨ j = 10 ∨ j = 11 ∨ j = 12 by omega) with rfl | rfl | rfl | rfl | rfl | rfl | rfl | rfl | rfl | rfl | rfl | rfl | rfl <;> rfl) (Nat.le_of_ble_eq_true rfl) (Nat.le_of_ble_eq_true rfl) dX6_init_46 (fun q16 H hP hD hS => ?_)
  have hP : va_P (dC, dI) pcl [(h0, .inr (7, [.ref q1, .ref q6, .ref q11, .ref q13, .null, .null, .null, .null, .null, .int 0, .int 0, .int 0, .int 0, .int 0, .int 0, .int 0])), (q1, .inr (11, [.ref q3, .ref q4, .ref q5, .int 0])), (q6, .inr (11, [.ref q8, .ref q9, .ref q10, .int 0])), (q11, .inl (cA12, 100, .inl (fun _ => 0))), (q13, .inr (8, [.ref q15, .int 0])), (q16, .inr (2, [.null, .null, .null, .null, .null, .null, .null, .null, .null, .null, .int 0, .int 0, .int 0]))] H := hP
  have hD : va_D A [(h0, .inr (7, [.ref q1, .ref q6, .ref q11, .ref q13, .null, .null, .null, .null, .null, .int 0, .int 0, .int 0, .int 0, .int 0, .int 0, .int 0])), (q1, .inr (11, [.ref q3, .ref q4, .ref q5, .int 0])), (q6, .inr (11, [.ref q8, .ref q9, .ref q10, .int 0])), (q11, .inl (cA12, 100, .inl (fun _ => 0))), (q13, .inr (8, [.ref q15, .int 0])), (q16, .inr (2, [.null, .null, .null, .null, .null, .null, .null, .null, .null, .null, .int 0, .int 0, .int 0]))] := hD
  refine W.widen (k := 12) (n := 2905) (Nat.le_of_ble_eq_true rfl) (Nat.le_of_ble_eq_true rfl) ?_
  refine lv_dup hx hb dX6_init_49 rfl ?_
  have hPc := hP.sub (ws' := [(q16, .inr (2, [.null, .null, .null, .null, .null, .null, .null, .null, .null, .null, .int 0, .int 0, .int 0]))]) [5] rfl
  have hDc := hD.sub (ws' := [(q16, .inr (2, [.null, .null, .null, .null, .null, .null, .null, .null, .null, .null, .int 0, .int 0, .int 0]))]) [5] (by decide) rfl
  have hKc := hK.sub (tys' := []) [] rfl
  have hFc := va_free (wc := [(q16, .inr (2, [.null, .null, .null, .null, .null, .null, .null, .null, .null, .null, .int 0, .int 0, .int 0]))]) hD hS hA [5] rfl
  refine va_callv (va_runIN (As := []) (rest := [.ref q16, .ref h0]) ⟨hx, hb, hml, hown, hts⟩ (c_X1_init l dC dI z q16 H.size) ⟨va_cnB 0 hts (ws_good e73) rfl rfl rfl (hN _ n5) (hts _ e20) ⟨by decide +kernel, by decide +kernel, by decide +kernel⟩ ⟨Nat.le_of_ble_eq_true rfl, Nat.le_of_ble_eq_true rfl⟩, rfl, (hts _ e72)⟩ ⟨pPre_blind, fun U hU hW => ⟨rfl, pPre_at hPc hKc hDc hE hS hFc U hU hW⟩⟩ rfl rfl hl.1 rfl (lv_room (Nat.le_of_ble_eq_true rfl)) dX6_init_50 ⟨Nat.le_of_ble_eq_true rfl, Nat.le_of_ble_eq_true rfl⟩) hS (fun q _ h => hFc q h) hFc (fun u t H1 locs ht hvm hw hB hz1 hk1 hS => ?_)
  obtain ⟨q18, q19, q20, q21, q22, q23, q24, q25, q26, q27, hP1, hK1, hD1⟩ := hB
  rw [ht] at hP1
  have hK1 := va_K.moved hvm.symm hK1
  obtain ⟨hP, hD⟩ := va_join (wr := [(h0, .inr (7, [.ref q1, .ref q6, .ref q11, .ref q13, .null, .null, .null, .null, .null, .int 0, .int 0, .int 0, .int 0, .int 0, .int 0, .int 0])), (q1, .inr (11, [.ref q3, .ref q4, .ref q5, .int 0])), (q6, .inr (11, [.ref q8, .ref q9, .ref q10, .int 0])), (q11, .inl (cA12, 100, .inl (fun _ => 0))), (q13, .inr (8, [.ref q15, .int 0]))]) (w1 := [(q16, .inr (2, [.ref q18, .ref q19, .ref q20, .ref q21, .ref q22, .ref q23, .ref q24, .ref q25, .ref q26, .ref q27, .int 0, .int 0, .int 0]))]) hP hD [5] [0, 1, 2, 3, 4] rfl rfl (by decide) (by decide) hk1 hFc hP1 hD1
  have hK := hK.app hK1
  generalize H1 = H at hP hS ⊢
  have hP : va_P (dC, dI) pcl [(h0, .inr (7, [.ref q1, .ref q6, .ref q11, .ref q13, .null, .null, .null, .null, .null, .int 0, .int 0, .int 0, .int 0, .int 0, .int 0, .int 0])), (q1, .inr (11, [.ref q3, .ref q4, .ref q5, .int 0])), (q6, .inr (11, [.ref q8, .ref q9, .ref q10, .int 0])), (q11, .inl (cA12, 100, .inl (fun _ => 0))), (q13, .inr (8, [.ref q15, .int 0])), (q16, .inr (2, [.ref q18, .ref q19, .ref q20, .ref q21, .ref q22, .ref q23, .ref q24, .ref q25, .ref q26, .ref q27, .int 0, .int 0, .int 0]))] H := hP
  have hD : va_D A [(h0, .inr (7, [.ref q1, .ref q6, .ref q11, .ref q13, .null, .null, .null, .null, .null, .int 0, .int 0, .int 0, .int 0, .int 0, .int 0, .int 0])), (q1, .inr (11, [.ref q3, .ref q4, .ref q5, .int 0])), (q6, .inr (11, [.ref q8, .ref q9, .ref q10, .int 0])), (q11, .inl (cA12, 100, .inl (fun _ => 0))), (q13, .inr (8, [.ref q15, .int 0])), (q16, .inr (2, [.ref q18, .ref q19, .ref q20, .ref q21, .ref q22, .ref q23, .ref q24, .ref q25, .ref q26, .ref q27, .int 0, .int 0, .int 0]))] := hD
  have hK : va_K (dC, dI) pcl [(cA12, .int)] s := hK
  refine W.widen (k := 22) (n := 5545) (Nat.le_of_ble_eq_true rfl) (Nat.le_of_ble_eq_true rfl) ?_
  refine va_putF (D := (dC, dI)) (ci := 7) (v := .ref q16) (ty := .object "WordFoundry$Dictionary") (C := RX6) (T := TX6) (N := 16) hx hb hts pinX6 tyX6 tyX6_ok nmX6 hown hK hP hD hS 0 rfl rfl 4 (by decide) (hts _ e74) (fun _ h9 => h9) rfl hin rfl (by decide +kernel) rfl rfl (Nat.le_of_ble_eq_true rfl) dX6_init_53 (fun H locs hP hD hS => ?_)
  have hP : va_P (dC, dI) pcl [(h0, .inr (7, [.ref q1, .ref q6, .ref q11, .ref q13, .ref q16, .null, .null, .null, .null, .int 0, .int 0, .int 0, .int 0, .int 0, .int 0, .int 0])), (q1, .inr (11, [.ref q3, .ref q4, .ref q5, .int 0])), (q6, .inr (11, [.ref q8, .ref q9, .ref q10, .int 0])), (q11, .inl (cA12, 100, .inl (fun _ => 0))), (q13, .inr (8, [.ref q15, .int 0])), (q16, .inr (2, [.ref q18, .ref q19, .ref q20, .ref q21, .ref q22, .ref q23, .ref q24, .ref q25, .ref q26, .ref q27, .int 0, .int 0, .int 0]))] H := hP
  have hD : va_D A [(h0, .inr (7, [.ref q1, .ref q6, .ref q11, .ref q13, .ref q16, .null, .null, .null, .null, .int 0, .int 0, .int 0, .int 0, .int 0, .int 0, .int 0])), (q1, .inr (11, [.ref q3, .ref q4, .ref q5, .int 0])), (q6, .inr (11, [.ref q8, .ref q9, .ref q10, .int 0])), (q11, .inl (cA12, 100, .inl (fun _ => 0))), (q13, .inr (8, [.ref q15, .int 0])), (q16, .inr (2, [.ref q18, .ref q19, .ref q20, .ref q21, .ref q22, .ref q23, .ref q24, .ref q25, .ref q26, .ref q27, .int 0, .int 0, .int 0]))] := hD
  refine lv_aload_n hx hb dX6_init_56 rfl (lv_at hl 0 rfl) ?_
  refine va_new (ci := 3) (fs := [.null, .null, .null, .null, .null, .null, .int 0, .int 0, .int 0, .int 0, .int 0]) (C := RX2) (T := TX2) (N := 11) hx hb hts pinX2 tyX2 tyX2_ok hown (hts _ e75) (hts _ e76) (hts _ e77) hK hP hD hS hA rfl (fun j hj => by rcases (show j = 0 ∨ j = 1 ∨ j = 2 ∨ j = 3 ∨ j = 4 ∨ j = 5 ∨ j = 6 ∨ j = 7 ∨ j = 8 ∨ j = 9 ∨ j = 10 by omega) with rfl | rfl | rfl | rfl | rfl | rfl | rfl | rfl | rfl | rfl | rfl <;> rfl) (Nat.le_of_ble_eq_true rfl) (Nat.le_of_ble_eq_true rfl) dX6_init_57 (fun q28 H hP hD hS => ?_)
  have hP : va_P (dC, dI) pcl [(h0, .inr (7, [.ref q1, .ref q6, .ref q11, .ref q13, .ref q16, .null, .null, .null, .null, .int 0, .int 0, .int 0, .int 0, .int 0, .int 0, .int 0])), (q1, .inr (11, [.ref q3, .ref q4, .ref q5, .int 0])), (q6, .inr (11, [.ref q8, .ref q9, .ref q10, .int 0])), (q11, .inl (cA12, 100, .inl (fun _ => 0))), (q13, .inr (8, [.ref q15, .int 0])), (q16, .inr (2, [.ref q18, .ref q19, .ref q20, .ref q21, .ref q22, .ref q23, .ref q24, .ref q25, .ref q26, .ref q27, .int 0, .int 0, .int 0])), (q28, .inr (3, [.null, .null, .null, .null, .null, .null, .int 0, .int 0, .int 0, .int 0, .int 0]))] H := hP
  have hD : va_D A [(h0, .inr (7, [.ref q1, .ref q6, .ref q11, .ref q13, .ref q16, .null, .null, .null, .null, .int 0, .int 0, .int 0, .int 0, .int 0, .int 0, .int 0])), (q1, .inr (11, [.ref q3, .ref q4, .ref q5, .int 0])), (q6, .inr (11, [.ref q8, .ref q9, .ref q10, .int 0])), (q11, .inl (cA12, 100, .inl (fun _ => 0))), (q13, .inr (8, [.ref q15, .int 0])), (q16, .inr (2, [.ref q18, .ref q19, .ref q20, .ref q21, .ref q22, .ref q23, .ref q24, .ref q25, .ref q26, .ref q27, .int 0, .int 0, .int 0])), (q28, .inr (3, [.null, .null, .null, .null, .null, .null, .int 0, .int 0, .int 0, .int 0, .int 0]))] := hD
  refine W.widen (k := 23) (n := 5556) (Nat.le_of_ble_eq_true rfl) (Nat.le_of_ble_eq_true rfl) ?_
  refine lv_dup hx hb dX6_init_60 rfl ?_
  have hPc := hP.sub (ws' := [(q28, .inr (3, [.null, .null, .null, .null, .null, .null, .int 0, .int 0, .int 0, .int 0, .int 0]))]) [6] rfl
  have hDc := hD.sub (ws' := [(q28, .inr (3, [.null, .null, .null, .null, .null, .null, .int 0, .int 0, .int 0, .int 0, .int 0]))]) [6] (by decide) rfl
  have hKc := hK.sub (tys' := []) [] rfl
  have hFc := va_free (wc := [(q28, .inr (3, [.null, .null, .null, .null, .null, .null, .int 0, .int 0, .int 0, .int 0, .int 0]))]) hD hS hA [6] rfl
  refine va_callv (va_runIN (As := []) (rest := [.ref q28, .ref h0]) ⟨hx, hb, hml, hown, hts⟩ (c_X2_init l dC dI z q28 H.size) ⟨va_cnB 0 hts (ws_good e79) rfl rfl rfl (hN _ n6) (hts _ e77) ⟨by decide +kernel, by decide +kernel, by decide +kernel⟩ ⟨Nat.le_of_ble_eq_true rfl, Nat.le_of_ble_eq_true rfl⟩, rfl, (hts _ e78)⟩ ⟨pPre_blind, fun U hU hW => ⟨rfl, pPre_at hPc hKc hDc hE hS hFc U hU hW⟩⟩ rfl rfl hl.1 rfl (lv_room (Nat.le_of_ble_eq_true rfl)) dX6_init_61 ⟨Nat.le_of_ble_eq_true rfl, Nat.le_of_ble_eq_true rfl⟩) hS (fun q _ h => hFc q h) hFc (fun u t H1 locs ht hvm hw hB hz1 hk1 hS => ?_)
  obtain ⟨q30, q31, q32, q33, q34, q35, hP1, hK1, hD1⟩ := hB
  rw [ht] at hP1
  have hK1 := va_K.moved hvm.symm hK1
  obtain ⟨hP, hD⟩ := va_join (wr := [(h0, .inr (7, [.ref q1, .ref q6, .ref q11, .ref q13, .ref q16, .null, .null, .null, .null, .int 0, .int 0, .int 0, .int 0, .int 0, .int 0, .int 0])), (q1, .inr (11, [.ref q3, .ref q4, .ref q5, .int 0])), (q6, .inr (11, [.ref q8, .ref q9, .ref q10, .int 0])), (q11, .inl (cA12, 100, .inl (fun _ => 0))), (q13, .inr (8, [.ref q15, .int 0])), (q16, .inr (2, [.ref q18, .ref q19, .ref q20, .ref q21, .ref q22, .ref q23, .ref q24, .ref q25, .ref q26, .ref q27, .int 0, .int 0, .int 0]))]) (w1 := [(q28, .inr (3, [.ref q30, .ref q31, .ref q32, .ref q33, .ref q34, .ref q35, .int 0, .int 0, .int 0, .int 0, .int 0]))]) hP hD [6] [0, 1, 2, 3, 4, 5] rfl rfl (by decide) (by decide) hk1 hFc hP1 hD1
  have hK := hK.app hK1
  generalize H1 = H at hP hS ⊢
  have hP : va_P (dC, dI) pcl [(h0, .inr (7, [.ref q1, .ref q6, .ref q11, .ref q13, .ref q16, .null, .null, .null, .null, .int 0, .int 0, .int 0, .int 0, .int 0, .int 0, .int 0])), (q1, .inr (11, [.ref q3, .ref q4, .ref q5, .int 0])), (q6, .inr (11, [.ref q8, .ref q9, .ref q10, .int 0])), (q11, .inl (cA12, 100, .inl (fun _ => 0))), (q13, .inr (8, [.ref q15, .int 0])), (q16, .inr (2, [.ref q18, .ref q19, .ref q20, .ref q21, .ref q22, .ref q23, .ref q24, .ref q25, .ref q26, .ref q27, .int 0, .int 0, .int 0])), (q28, .inr (3, [.ref q30, .ref q31, .ref q32, .ref q33, .ref q34, .ref q35, .int 0, .int 0, .int 0, .int 0, .int 0]))] H := hP
  have hD : va_D A [(h0, .inr (7, [.ref q1, .ref q6, .ref q11, .ref q13, .ref q16, .null, .null, .null, .null, .int 0, .int 0, .int 0, .int 0, .int 0, .int 0, .int 0])), (q1, .inr (11, [.ref q3, .ref q4, .ref q5, .int 0])), (q6, .inr (11, [.ref q8, .ref q9, .ref q10, .int 0])), (q11, .inl (cA12, 100, .inl (fun _ => 0))), (q13, .inr (8, [.ref q15, .int 0])), (q16, .inr (2, [.ref q18, .ref q19, .ref q20, .ref q21, .ref q22, .ref q23, .ref q24, .ref q25, .ref q26, .ref q27, .int 0, .int 0, .int 0])), (q28, .inr (3, [.ref q30, .ref q31, .ref q32, .ref q33, .ref q34, .ref q35, .int 0, .int 0, .int 0, .int 0, .int 0]))] := hD
  have hK : va_K (dC, dI) pcl [(cA12, .int)] s := hK
  refine W.widen (k := 29) (n := 6156) (Nat.le_of_ble_eq_true rfl) (Nat.le_of_ble_eq_true rfl) ?_
  refine va_putF (D := (dC, dI)) (ci := 7) (v := .ref q28) (ty := .object "WordFoundry$Draft") (C := RX6) (T := TX6) (N := 16) hx hb hts pinX6 tyX6 tyX6_ok nmX6 hown hK hP hD hS 0 rfl rfl 5 (by decide) (hts _ e80) (fun _ h9 => h9) rfl hin rfl (by decide +kernel) rfl rfl (Nat.le_of_ble_eq_true rfl) dX6_init_64 (fun H locs hP hD hS => ?_)
  have hP : va_P (dC, dI) pcl [(h0, .inr (7, [.ref q1, .ref q6, .ref q11, .ref q13, .ref q16, .ref q28, .null, .null, .null, .int 0, .int 0, .int 0, .int 0, .int 0, .int 0, .int 0])), (q1, .inr (11, [.ref q3, .ref q4, .ref q5, .int 0])), (q6, .inr (11, [.ref q8, .ref q9, .ref q10, .int 0])), (q11, .inl (cA12, 100, .inl (fun _ => 0))), (q13, .inr (8, [.ref q15, .int 0])), (q16, .inr (2, [.ref q18, .ref q19, .ref q20, .ref q21, .ref q22, .ref q23, .ref q24, .ref q25, .ref q26, .ref q27, .int 0, .int 0, .int 0])), (q28, .inr (3, [.ref q30, .ref q31, .ref q32, .ref q33, .ref q34, .ref q35, .int 0, .int 0, .int 0, .int 0, .int 0]))] H := hP
  have hD : va_D A [(h0, .inr (7, [.ref q1, .ref q6, .ref q11, .ref q13, .ref q16, .ref q28, .null, .null, .null, .int 0, .int 0, .int 0, .int 0, .int 0, .int 0, .int 0])), (q1, .inr (11, [.ref q3, .ref q4, .ref q5, .int 0])), (q6, .inr (11, [.ref q8, .ref q9, .ref q10, .int 0])), (q11, .inl (cA12, 100, .inl (fun _ => 0))), (q13, .inr (8, [.ref q15, .int 0])), (q16, .inr (2, [.ref q18, .ref q19, .ref q20, .ref q21, .ref q22, .ref q23, .ref q24, .ref q25, .ref q26, .ref q27, .int 0, .int 0, .int 0])), (q28, .inr (3, [.ref q30, .ref q31, .ref q32, .ref q33, .ref q34, .ref q35, .int 0, .int 0, .int 0, .int 0, .int 0]))] := hD
  refine lv_aload_n hx hb dX6_init_67 rfl (lv_at hl 0 rfl) ?_
  refine va_new (ci := 6) (fs := [.null, .null, .int 0, .int 0]) (C := RX5) (T := TX5) (N := 4) hx hb hts pinX5 tyX5 tyX5_ok hown (hts _ e81) (hts _ e82) (hts _ e83) hK hP hD hS hA rfl (fun j hj => by rcases (show j = 0 ∨ j = 1 ∨ j = 2 ∨ j = 3 by omega) with rfl | rfl | rfl | rfl <;> rfl) (Nat.le_of_ble_eq_true rfl) (Nat.le_of_ble_eq_true rfl) dX6_init_68 (fun q36 H hP hD hS => ?_)
  have hP : va_P (dC, dI) pcl [(h0, .inr (7, [.ref q1, .ref q6, .ref q11, .ref q13, .ref q16, .ref q28, .null, .null, .null, .int 0, .int 0, .int 0, .int 0, .int 0, .int 0, .int 0])), (q1, .inr (11, [.ref q3, .ref q4, .ref q5, .int 0])), (q6, .inr (11, [.ref q8, .ref q9, .ref q10, .int 0])), (q11, .inl (cA12, 100, .inl (fun _ => 0))), (q13, .inr (8, [.ref q15, .int 0])), (q16, .inr (2, [.ref q18, .ref q19, .ref q20, .ref q21, .ref q22, .ref q23, .ref q24, .ref q25, .ref q26, .ref q27, .int 0, .int 0, .int 0])), (q28, .inr (3, [.ref q30, .ref q31, .ref q32, .ref q33, .ref q34, .ref q35, .int 0, .int 0, .int 0, .int 0, .int 0])), (q36, .inr (6, [.null, .null, .int 0, .int 0]))] H := hP
  have hD : va_D A [(h0, .inr (7, [.ref q1, .ref q6, .ref q11, .ref q13, .ref q16, .ref q28, .null, .null, .null, .int 0, .int 0, .int 0, .int 0, .int 0, .int 0, .int 0])), (q1, .inr (11, [.ref q3, .ref q4, .ref q5, .int 0])), (q6, .inr (11, [.ref q8, .ref q9, .ref q10, .int 0])), (q11, .inl (cA12, 100, .inl (fun _ => 0))), (q13, .inr (8, [.ref q15, .int 0])), (q16, .inr (2, [.ref q18, .ref q19, .ref q20, .ref q21, .ref q22, .ref q23, .ref q24, .ref q25, .ref q26, .ref q27, .int 0, .int 0, .int 0])), (q28, .inr (3, [.ref q30, .ref q31, .ref q32, .ref q33, .ref q34, .ref q35, .int 0, .int 0, .int 0, .int 0, .int 0])), (q36, .inr (6, [.null, .null, .int 0, .int 0]))] := hD
  refine W.widen (k := 30) (n := 6160) (Nat.le_of_ble_eq_true rfl) (Nat.le_of_ble_eq_true rfl) ?_
  refine lv_dup hx hb dX6_init_71 rfl ?_
  have hPc := hP.sub (ws' := [(q36, .inr (6, [.null, .null, .int 0, .int 0]))]) [7] rfl
  have hDc := hD.sub (ws' := [(q36, .inr (6, [.null, .null, .int 0, .int 0]))]) [7] (by decide) rfl
  have hKc := hK.sub (tys' := []) [] rfl
  have hFc := va_free (wc := [(q36, .inr (6, [.null, .null, .int 0, .int 0]))]) hD hS hA [7] rfl
  refine va_callv (va_runIN (As := []) (rest := [.ref q36, .ref h0]) ⟨hx, hb, hml, hown, hts⟩ (c_X5_init l dC dI z q36 H.size) ⟨va_cnB 0 hts (ws_good e85) rfl rfl rfl (hN _ n7) (hts _ e83) ⟨by decide +kernel, by decide +kernel, by decide +kernel⟩ ⟨Nat.le_of_ble_eq_true rfl, Nat.le_of_ble_eq_true rfl⟩, rfl, (hts _ e84)⟩ ⟨pPre_blind, fun U hU hW => ⟨rfl, pPre_at hPc hKc hDc hE hS hFc U hU hW⟩⟩ rfl rfl hl.1 rfl (lv_room (Nat.le_of_ble_eq_true rfl)) dX6_init_72 ⟨Nat.le_of_ble_eq_true rfl, Nat.le_of_ble_eq_true rfl⟩) hS (fun q _ h => hFc q h) hFc (fun u t H1 locs ht hvm hw hB hz1 hk1 hS => ?_)
  obtain ⟨q38, q39, cA40, cA41, hP1, hK1, hD1⟩ := hB
  rw [ht] at hP1
  have hK1 := va_K.moved hvm.symm hK1
  obtain ⟨hP, hD⟩ := va_join (wr := [(h0, .inr (7, [.ref q1, .ref q6, .ref q11, .ref q13, .ref q16, .ref q28, .null, .null, .null, .int 0, .int 0, .int 0, .int 0, .int 0, .int 0, .int 0])), (q1, .inr (11, [.ref q3, .ref q4, .ref q5, .int 0])), (q6, .inr (11, [.ref q8, .ref q9, .ref q10, .int 0])), (q11, .inl (cA12, 100, .inl (fun _ => 0))), (q13, .inr (8, [.ref q15, .int 0])), (q16, .inr (2, [.ref q18, .ref q19, .ref q20, .ref q21, .ref q22, .ref q23, .ref q24, .ref q25, .ref q26, .ref q27, .int 0, .int 0, .int 0])), (q28, .inr (3, [.ref q30, .ref q31, .ref q32, .ref q33, .ref q34, .ref q35, .int 0, .int 0, .int 0, .int 0, .int 0]))]) (w1 := [(q36, .inr (6, [.ref q38, .ref q39, .int 0, .int 0])), (q38, .inl (cA40, 40, .inl (fun _ => 0))), (q39, .inl (cA41, 40, .inl (fun _ => 0)))]) hP hD [7] [0, 1, 2, 3, 4, 5, 6] rfl rfl (by decide) (by decide) hk1 hFc hP1 hD1
  have hK := hK.app hK1
  generalize H1 = H at hP hS ⊢
  have hP : va_P (dC, dI) pcl [(h0, .inr (7, [.ref q1, .ref q6, .ref q11, .ref q13, .ref q16, .ref q28, .null, .null, .null, .int 0, .int 0, .int 0, .int 0, .int 0, .int 0, .int 0])), (q1, .inr (11, [.ref q3, .ref q4, .ref q5, .int 0])), (q6, .inr (11, [.ref q8, .ref q9, .ref q10, .int 0])), (q11, .inl (cA12, 100, .inl (fun _ => 0))), (q13, .inr (8, [.ref q15, .int 0])), (q16, .inr (2, [.ref q18, .ref q19, .ref q20, .ref q21, .ref q22, .ref q23, .ref q24, .ref q25, .ref q26, .ref q27, .int 0, .int 0, .int 0])), (q28, .inr (3, [.ref q30, .ref q31, .ref q32, .ref q33, .ref q34, .ref q35, .int 0, .int 0, .int 0, .int 0, .int 0])), (q36, .inr (6, [.ref q38, .ref q39, .int 0, .int 0])), (q38, .inl (cA40, 40, .inl (fun _ => 0))), (q39, .inl (cA41, 40, .inl (fun _ => 0)))] H := hP
  have hD : va_D A [(h0, .inr (7, [.ref q1, .ref q6, .ref q11, .ref q13, .ref q16, .ref q28, .null, .null, .null, .int 0, .int 0, .int 0, .int 0, .int 0, .int 0, .int 0])), (q1, .inr (11, [.ref q3, .ref q4, .ref q5, .int 0])), (q6, .inr (11, [.ref q8, .ref q9, .ref q10, .int 0])), (q11, .inl (cA12, 100, .inl (fun _ => 0))), (q13, .inr (8, [.ref q15, .int 0])), (q16, .inr (2, [.ref q18, .ref q19, .ref q20, .ref q21, .ref q22, .ref q23, .ref q24, .ref q25, .ref q26, .ref q27, .int 0, .int 0, .int 0])), (q28, .inr (3, [.ref q30, .ref q31, .ref q32, .ref q33, .ref q34, .ref q35, .int 0, .int 0, .int 0, .int 0, .int 0])), (q36, .inr (6, [.ref q38, .ref q39, .int 0, .int 0])), (q38, .inl (cA40, 40, .inl (fun _ => 0))), (q39, .inl (cA41, 40, .inl (fun _ => 0)))] := hD
  have hK : va_K (dC, dI) pcl [(cA12, .int), (cA40, .int), (cA41, .int)] s := hK
  refine W.widen (k := 32) (n := 6240) (Nat.le_of_ble_eq_true rfl) (Nat.le_of_ble_eq_true rfl) ?_
  refine va_putF (D := (dC, dI)) (ci := 7) (v := .ref q36) (ty := .object "WordFoundry$Line") (C := RX6) (T := TX6) (N := 16) hx hb hts pinX6 tyX6 tyX6_ok nmX6 hown hK hP hD hS 0 rfl rfl 6 (by decide) (hts _ e86) (fun _ h9 => h9) rfl hin rfl (by decide +kernel) rfl rfl (Nat.le_of_ble_eq_true rfl) dX6_init_75 (fun H locs hP hD hS => ?_)
  have hP : va_P (dC, dI) pcl [(h0, .inr (7, [.ref q1, .ref q6, .ref q11, .ref q13, .ref q16, .ref q28, .ref q36, .null, .null, .int 0, .int 0, .int 0, .int 0, .int 0, .int 0, .int 0])), (q1, .inr (11, [.ref q3, .ref q4, .ref q5, .int 0])), (q6, .inr (11, [.ref q8, .ref q9, .ref q10, .int 0])), (q11, .inl (cA12, 100, .inl (fun _ => 0))), (q13, .inr (8, [.ref q15, .int 0])), (q16, .inr (2, [.ref q18, .ref q19, .ref q20, .ref q21, .ref q22, .ref q23, .ref q24, .ref q25, .ref q26, .ref q27, .int 0, .int 0, .int 0])), (q28, .inr (3, [.ref q30, .ref q31, .ref q32, .ref q33, .ref q34, .ref q35, .int 0, .int 0, .int 0, .int 0, .int 0])), (q36, .inr (6, [.ref q38, .ref q39, .int 0, .int 0])), (q38, .inl (cA40, 40, .inl (fun _ => 0))), (q39, .inl (cA41, 40, .inl (fun _ => 0)))] H := hP
  have hD : va_D A [(h0, .inr (7, [.ref q1, .ref q6, .ref q11, .ref q13, .ref q16, .ref q28, .ref q36, .null, .null, .int 0, .int 0, .int 0, .int 0, .int 0, .int 0, .int 0])), (q1, .inr (11, [.ref q3, .ref q4, .ref q5, .int 0])), (q6, .inr (11, [.ref q8, .ref q9, .ref q10, .int 0])), (q11, .inl (cA12, 100, .inl (fun _ => 0))), (q13, .inr (8, [.ref q15, .int 0])), (q16, .inr (2, [.ref q18, .ref q19, .ref q20, .ref q21, .ref q22, .ref q23, .ref q24, .ref q25, .ref q26, .ref q27, .int 0, .int 0, .int 0])), (q28, .inr (3, [.ref q30, .ref q31, .ref q32, .ref q33, .ref q34, .ref q35, .int 0, .int 0, .int 0, .int 0, .int 0])), (q36, .inr (6, [.ref q38, .ref q39, .int 0, .int 0])), (q38, .inl (cA40, 40, .inl (fun _ => 0))), (q39, .inl (cA41, 40, .inl (fun _ => 0)))] := hD
  refine lv_aload_n hx hb dX6_init_78 rfl (lv_at hl 0 rfl) ?_
  refine lv_bipush (v := 30) hx hb dX6_init_79 (by decide) ?_
  refine va_newa (atype := .int) (N' := 30) (a0 := (30, .inl (fun _ => 0))) hx hb (hts _ e3) rfl hK hP hD hS hA (fun _ => rfl) (by decide) (by decide) (Nat.le_of_ble_eq_true rfl) (Nat.le_of_ble_eq_true rfl) (Nat.le_of_ble_eq_true rfl) dX6_init_81 (fun q42 cA43 H hK hP hD hS => ?_)
  have hP : va_P (dC, dI) pcl [(h0, .inr (7, [.ref q1, .ref q6, .ref q11, .ref q13, .ref q16, .ref q28, .ref q36, .null, .null, .int 0, .int 0, .int 0, .int 0, .int 0, .int 0, .int 0])), (q1, .inr (11, [.ref q3, .ref q4, .ref q5, .int 0])), (q6, .inr (11, [.ref q8, .ref q9, .ref q10, .int 0])), (q11, .inl (cA12, 100, .inl (fun _ => 0))), (q13, .inr (8, [.ref q15, .int 0])), (q16, .inr (2, [.ref q18, .ref q19, .ref q20, .ref q21, .ref q22, .ref q23, .ref q24, .ref q25, .ref q26, .ref q27, .int 0, .int 0, .int 0])), (q28, .inr (3, [.ref q30, .ref q31, .ref q32, .ref q33, .ref q34, .ref q35, .int 0, .int 0, .int 0, .int 0, .int 0])), (q36, .inr (6, [.ref q38, .ref q39, .int 0, .int 0])), (q38, .inl (cA40, 40, .inl (fun _ => 0))), (q39, .inl (cA41, 40, .inl (fun _ => 0))), (q42, .inl (cA43, 30, .inl (fun _ => 0)))] H := hP
  have hD : va_D A [(h0, .inr (7, [.ref q1, .ref q6, .ref q11, .ref q13, .ref q16, .ref q28, .ref q36, .null, .null, .int 0, .int 0, .int 0, .int 0, .int 0, .int 0, .int 0])), (q1, .inr (11, [.ref q3, .ref q4, .ref q5, .int 0])), (q6, .inr (11, [.ref q8, .ref q9, .ref q10, .int 0])), (q11, .inl (cA12, 100, .inl (fun _ => 0))), (q13, .inr (8, [.ref q15, .int 0])), (q16, .inr (2, [.ref q18, .ref q19, .ref q20, .ref q21, .ref q22, .ref q23, .ref q24, .ref q25, .ref q26, .ref q27, .int 0, .int 0, .int 0])), (q28, .inr (3, [.ref q30, .ref q31, .ref q32, .ref q33, .ref q34, .ref q35, .int 0, .int 0, .int 0, .int 0, .int 0])), (q36, .inr (6, [.ref q38, .ref q39, .int 0, .int 0])), (q38, .inl (cA40, 40, .inl (fun _ => 0))), (q39, .inl (cA41, 40, .inl (fun _ => 0))), (q42, .inl (cA43, 30, .inl (fun _ => 0)))] := hD
  have hK : va_K (dC, dI) pcl [(cA12, .int), (cA40, .int), (cA41, .int), (cA43, .int)] s := hK
  refine W.widen (k := 33) (n := 6270) (Nat.le_of_ble_eq_true rfl) (Nat.le_of_ble_eq_true rfl) ?_
  refine va_putF (D := (dC, dI)) (ci := 7) (v := .ref q42) (ty := .array .int) (C := RX6) (T := TX6) (N := 16) hx hb hts pinX6 tyX6 tyX6_ok nmX6 hown hK hP hD hS 0 rfl rfl 7 (by decide) (hts _ e87) (fun _ h9 => h9) rfl hin rfl (by decide +kernel) rfl rfl (Nat.le_of_ble_eq_true rfl) dX6_init_83 (fun H locs hP hD hS => ?_)
  have hP : va_P (dC, dI) pcl [(h0, .inr (7, [.ref q1, .ref q6, .ref q11, .ref q13, .ref q16, .ref q28, .ref q36, .ref q42, .null, .int 0, .int 0, .int 0, .int 0, .int 0, .int 0, .int 0])), (q1, .inr (11, [.ref q3, .ref q4, .ref q5, .int 0])), (q6, .inr (11, [.ref q8, .ref q9, .ref q10, .int 0])), (q11, .inl (cA12, 100, .inl (fun _ => 0))), (q13, .inr (8, [.ref q15, .int 0])), (q16, .inr (2, [.ref q18, .ref q19, .ref q20, .ref q21, .ref q22, .ref q23, .ref q24, .ref q25, .ref q26, .ref q27, .int 0, .int 0, .int 0])), (q28, .inr (3, [.ref q30, .ref q31, .ref q32, .ref q33, .ref q34, .ref q35, .int 0, .int 0, .int 0, .int 0, .int 0])), (q36, .inr (6, [.ref q38, .ref q39, .int 0, .int 0])), (q38, .inl (cA40, 40, .inl (fun _ => 0))), (q39, .inl (cA41, 40, .inl (fun _ => 0))), (q42, .inl (cA43, 30, .inl (fun _ => 0)))] H := hP
  have hD : va_D A [(h0, .inr (7, [.ref q1, .ref q6, .ref q11, .ref q13, .ref q16, .ref q28, .ref q36, .ref q42, .null, .int 0, .int 0, .int 0, .int 0, .int 0, .int 0, .int 0])), (q1, .inr (11, [.ref q3, .ref q4, .ref q5, .int 0])), (q6, .inr (11, [.ref q8, .ref q9, .ref q10, .int 0])), (q11, .inl (cA12, 100, .inl (fun _ => 0))), (q13, .inr (8, [.ref q15, .int 0])), (q16, .inr (2, [.ref q18, .ref q19, .ref q20, .ref q21, .ref q22, .ref q23, .ref q24, .ref q25, .ref q26, .ref q27, .int 0, .int 0, .int 0])), (q28, .inr (3, [.ref q30, .ref q31, .ref q32, .ref q33, .ref q34, .ref q35, .int 0, .int 0, .int 0, .int 0, .int 0])), (q36, .inr (6, [.ref q38, .ref q39, .int 0, .int 0])), (q38, .inl (cA40, 40, .inl (fun _ => 0))), (q39, .inl (cA41, 40, .inl (fun _ => 0))), (q42, .inl (cA43, 30, .inl (fun _ => 0)))] := hD
  refine lv_aload_n hx hb dX6_init_86 rfl (lv_at hl 0 rfl) ?_
  refine lv_bipush (v := 30) hx hb dX6_init_87 (by decide) ?_
  refine va_newa (atype := .int) (N' := 30) (a0 := (30, .inl (fun _ => 0))) hx hb (hts _ e3) rfl hK hP hD hS hA (fun _ => rfl) (by decide) (by decide) (Nat.le_of_ble_eq_true rfl) (Nat.le_of_ble_eq_true rfl) (Nat.le_of_ble_eq_true rfl) dX6_init_89 (fun q44 cA45 H hK hP hD hS => ?_)
  have hP : va_P (dC, dI) pcl [(h0, .inr (7, [.ref q1, .ref q6, .ref q11, .ref q13, .ref q16, .ref q28, .ref q36, .ref q42, .null, .int 0, .int 0, .int 0, .int 0, .int 0, .int 0, .int 0])), (q1, .inr (11, [.ref q3, .ref q4, .ref q5, .int 0])), (q6, .inr (11, [.ref q8, .ref q9, .ref q10, .int 0])), (q11, .inl (cA12, 100, .inl (fun _ => 0))), (q13, .inr (8, [.ref q15, .int 0])), (q16, .inr (2, [.ref q18, .ref q19, .ref q20, .ref q21, .ref q22, .ref q23, .ref q24, .ref q25, .ref q26, .ref q27, .int 0, .int 0, .int 0])), (q28, .inr (3, [.ref q30, .ref q31, .ref q32, .ref q33, .ref q34, .ref q35, .int 0, .int 0, .int 0, .int 0, .int 0])), (q36, .inr (6, [.ref q38, .ref q39, .int 0, .int 0])), (q38, .inl (cA40, 40, .inl (fun _ => 0))), (q39, .inl (cA41, 40, .inl (fun _ => 0))), (q42, .inl (cA43, 30, .inl (fun _ => 0))), (q44, .inl (cA45, 30, .inl (fun _ => 0)))] H := hP
  have hD : va_D A [(h0, .inr (7, [.ref q1, .ref q6, .ref q11, .ref q13, .ref q16, .ref q28, .ref q36, .ref q42, .null, .int 0, .int 0, .int 0, .int 0, .int 0, .int 0, .int 0])), (q1, .inr (11, [.ref q3, .ref q4, .ref q5, .int 0])), (q6, .inr (11, [.ref q8, .ref q9, .ref q10, .int 0])), (q11, .inl (cA12, 100, .inl (fun _ => 0))), (q13, .inr (8, [.ref q15, .int 0])), (q16, .inr (2, [.ref q18, .ref q19, .ref q20, .ref q21, .ref q22, .ref q23, .ref q24, .ref q25, .ref q26, .ref q27, .int 0, .int 0, .int 0])), (q28, .inr (3, [.ref q30, .ref q31, .ref q32, .ref q33, .ref q34, .ref q35, .int 0, .int 0, .int 0, .int 0, .int 0])), (q36, .inr (6, [.ref q38, .ref q39, .int 0, .int 0])), (q38, .inl (cA40, 40, .inl (fun _ => 0))), (q39, .inl (cA41, 40, .inl (fun _ => 0))), (q42, .inl (cA43, 30, .inl (fun _ => 0))), (q44, .inl (cA45, 30, .inl (fun _ => 0)))] := hD
  have hK : va_K (dC, dI) pcl [(cA12, .int), (cA40, .int), (cA41, .int), (cA43, .int), (cA45, .int)] s := hK
  refine W.widen (k := 34) (n := 6300) (Nat.le_of_ble_eq_true rfl) (Nat.le_of_ble_eq_true rfl) ?_
  refine va_putF (D := (dC, dI)) (ci := 7) (v := .ref q44) (ty := .array .int) (C := RX6) (T := TX6) (N := 16) hx hb hts pinX6 tyX6 tyX6_ok nmX6 hown hK hP hD hS 0 rfl rfl 8 (by decide) (hts _ e88) (fun _ h9 => h9) rfl hin rfl (by decide +kernel) rfl rfl (Nat.le_of_ble_eq_true rfl) dX6_init_91 (fun H locs hP hD hS => ?_)
  have hP : va_P (dC, dI) pcl [(h0, .inr (7, [.ref q1, .ref q6, .ref q11, .ref q13, .ref q16, .ref q28, .ref q36, .ref q42, .ref q44, .int 0, .int 0, .int 0, .int 0, .int 0, .int 0, .int 0])), (q1, .inr (11, [.ref q3, .ref q4, .ref q5, .int 0])), (q6, .inr (11, [.ref q8, .ref q9, .ref q10, .int 0])), (q11, .inl (cA12, 100, .inl (fun _ => 0))), (q13, .inr (8, [.ref q15, .int 0])), (q16, .inr (2, [.ref q18, .ref q19, .ref q20, .ref q21, .ref q22, .ref q23, .ref q24, .ref q25, .ref q26, .ref q27, .int 0, .int 0, .int 0])), (q28, .inr (3, [.ref q30, .ref q31, .ref q32, .ref q33, .ref q34, .ref q35, .int 0, .int 0, .int 0, .int 0, .int 0])), (q36, .inr (6, [.ref q38, .ref q39, .int 0, .int 0])), (q38, .inl (cA40, 40, .inl (fun _ => 0))), (q39, .inl (cA41, 40, .inl (fun _ => 0))), (q42, .inl (cA43, 30, .inl (fun _ => 0))), (q44, .inl (cA45, 30, .inl (fun _ => 0)))] H := hP
  have hD : va_D A [(h0, .inr (7, [.ref q1, .ref q6, .ref q11, .ref q13, .ref q16, .ref q28, .ref q36, .ref q42, .ref q44, .int 0, .int 0, .int 0, .int 0, .int 0, .int 0, .int 0])), (q1, .inr (11, [.ref q3, .ref q4, .ref q5, .int 0])), (q6, .inr (11, [.ref q8, .ref q9, .ref q10, .int 0])), (q11, .inl (cA12, 100, .inl (fun _ => 0))), (q13, .inr (8, [.ref q15, .int 0])), (q16, .inr (2, [.ref q18, .ref q19, .ref q20, .ref q21, .ref q22, .ref q23, .ref q24, .ref q25, .ref q26, .ref q27, .int 0, .int 0, .int 0])), (q28, .inr (3, [.ref q30, .ref q31, .ref q32, .ref q33, .ref q34, .ref q35, .int 0, .int 0, .int 0, .int 0, .int 0])), (q36, .inr (6, [.ref q38, .ref q39, .int 0, .int 0])), (q38, .inl (cA40, 40, .inl (fun _ => 0))), (q39, .inl (cA41, 40, .inl (fun _ => 0))), (q42, .inl (cA43, 30, .inl (fun _ => 0))), (q44, .inl (cA45, 30, .inl (fun _ => 0)))] := hD
  refine lv_aload_n hx hb dX6_init_94 rfl (lv_at hl 0 rfl) ?_
  refine lv_iload_n hx hb dX6_init_95 rfl (lv_at hl 1 rfl) ?_
  refine va_putF (D := (dC, dI)) (ci := 7) (v := .int most) (ty := .int) (C := RX6) (T := TX6) (N := 16) hx hb hts pinX6 tyX6 tyX6_ok nmX6 hown hK hP hD hS 0 rfl rfl 9 (by decide) (hts _ e89) (fun _ h9 => h9) rfl hin rfl (by decide +kernel) rfl rfl (Nat.le_of_ble_eq_true rfl) dX6_init_96 (fun H locs hP hD hS => ?_)
  have hP : va_P (dC, dI) pcl [(h0, .inr (7, [.ref q1, .ref q6, .ref q11, .ref q13, .ref q16, .ref q28, .ref q36, .ref q42, .ref q44, .int most, .int 0, .int 0, .int 0, .int 0, .int 0, .int 0])), (q1, .inr (11, [.ref q3, .ref q4, .ref q5, .int 0])), (q6, .inr (11, [.ref q8, .ref q9, .ref q10, .int 0])), (q11, .inl (cA12, 100, .inl (fun _ => 0))), (q13, .inr (8, [.ref q15, .int 0])), (q16, .inr (2, [.ref q18, .ref q19, .ref q20, .ref q21, .ref q22, .ref q23, .ref q24, .ref q25, .ref q26, .ref q27, .int 0, .int 0, .int 0])), (q28, .inr (3, [.ref q30, .ref q31, .ref q32, .ref q33, .ref q34, .ref q35, .int 0, .int 0, .int 0, .int 0, .int 0])), (q36, .inr (6, [.ref q38, .ref q39, .int 0, .int 0])), (q38, .inl (cA40, 40, .inl (fun _ => 0))), (q39, .inl (cA41, 40, .inl (fun _ => 0))), (q42, .inl (cA43, 30, .inl (fun _ => 0))), (q44, .inl (cA45, 30, .inl (fun _ => 0)))] H := hP
  have hD : va_D A [(h0, .inr (7, [.ref q1, .ref q6, .ref q11, .ref q13, .ref q16, .ref q28, .ref q36, .ref q42, .ref q44, .int most, .int 0, .int 0, .int 0, .int 0, .int 0, .int 0])), (q1, .inr (11, [.ref q3, .ref q4, .ref q5, .int 0])), (q6, .inr (11, [.ref q8, .ref q9, .ref q10, .int 0])), (q11, .inl (cA12, 100, .inl (fun _ => 0))), (q13, .inr (8, [.ref q15, .int 0])), (q16, .inr (2, [.ref q18, .ref q19, .ref q20, .ref q21, .ref q22, .ref q23, .ref q24, .ref q25, .ref q26, .ref q27, .int 0, .int 0, .int 0])), (q28, .inr (3, [.ref q30, .ref q31, .ref q32, .ref q33, .ref q34, .ref q35, .int 0, .int 0, .int 0, .int 0, .int 0])), (q36, .inr (6, [.ref q38, .ref q39, .int 0, .int 0])), (q38, .inl (cA40, 40, .inl (fun _ => 0))), (q39, .inl (cA41, 40, .inl (fun _ => 0))), (q42, .inl (cA43, 30, .inl (fun _ => 0))), (q44, .inl (cA45, 30, .inl (fun _ => 0)))] := hD
  have hP9 := hP.sub (ws' := [(h0, .inr (7, [.ref q1, .ref q6, .ref q11, .ref q13, .ref q16, .ref q28, .ref q36, .ref q42, .ref q44, .int most, .int 0, .int 0, .int 0, .int 0, .int 0, .int 0])), (q1, .inr (11, [.ref q3, .ref q4, .ref q5, .int 0])), (q6, .inr (11, [.ref q8, .ref q9, .ref q10, .int 0])), (q11, .inl (cA12, 100, .inl (fun _ => 0))), (q13, .inr (8, [.ref q15, .int 0])), (q16, .inr (2, [.ref q18, .ref q19, .ref q20, .ref q21, .ref q22, .ref q23, .ref q24, .ref q25, .ref q26, .ref q27, .int 0, .int 0, .int 0])), (q28, .inr (3, [.ref q30, .ref q31, .ref q32, .ref q33, .ref q34, .ref q35, .int 0, .int 0, .int 0, .int 0, .int 0])), (q36, .inr (6, [.ref q38, .ref q39, .int 0, .int 0])), (q38, .inl (cA40, 40, .inl (fun _ => 0))), (q39, .inl (cA41, 40, .inl (fun _ => 0)))]) [0, 1, 2, 3, 4, 5, 6, 7, 8, 9] rfl
  have hD9 := hD.sub (ws' := [(h0, .inr (7, [.ref q1, .ref q6, .ref q11, .ref q13, .ref q16, .ref q28, .ref q36, .ref q42, .ref q44, .int most, .int 0, .int 0, .int 0, .int 0, .int 0, .int 0])), (q1, .inr (11, [.ref q3, .ref q4, .ref q5, .int 0])), (q6, .inr (11, [.ref q8, .ref q9, .ref q10, .int 0])), (q11, .inl (cA12, 100, .inl (fun _ => 0))), (q13, .inr (8, [.ref q15, .int 0])), (q16, .inr (2, [.ref q18, .ref q19, .ref q20, .ref q21, .ref q22, .ref q23, .ref q24, .ref q25, .ref q26, .ref q27, .int 0, .int 0, .int 0])), (q28, .inr (3, [.ref q30, .ref q31, .ref q32, .ref q33, .ref q34, .ref q35, .int 0, .int 0, .int 0, .int 0, .int 0])), (q36, .inr (6, [.ref q38, .ref q39, .int 0, .int 0])), (q38, .inl (cA40, 40, .inl (fun _ => 0))), (q39, .inl (cA41, 40, .inl (fun _ => 0)))]) [0, 1, 2, 3, 4, 5, 6, 7, 8, 9] (by decide) rfl
  have hK9 := hK.sub (tys' := [(cA12, .int), (cA40, .int), (cA41, .int)]) [0, 1, 2] rfl
  refine W.widen (k := 34) (n := 6300) (Nat.le_of_ble_eq_true rfl) (Nat.le_of_ble_eq_true rfl) ?_
  exact W.vret hx hb hr (fun t ht hW => ⟨⟨(), rfl, trivial, q1, q6, q11, q13, q16, q28, q36, q42, q44, q3, q4, q5, q8, q9, q10, q15, q18, q19, q20, q21, q22, q23, q24, q25, q26, q27, q30, q31, q32, q33, q34, q35, q38, q39, cA12, cA40, cA41, by rw [ht]; exact hP9, va_K.moved hW.alike hK9, hD9⟩, hS.F ht⟩) hS.2.2 dX6_init_99
set_option maxHeartbeats 4000000 in
set_option maxRecDepth 100000 in
theorem c_X0_set0 (l : Launch) (dC : Nat → ClassId) (dI : Nat → Nat → Nat) (z : pG) (h0 : Nat) (a1 : Nat) (cB : ClassId) (f : Nat → Int32) (sz : Nat) : Met l yX0_set (ws_ yX0_set cX0_set 4 none) ({ frames := 0, cells := 0, slots := 0, locals := 0 }) (va_Pc [.ref h0, .int 101, .int 0] (pPre z dC dI [(h0, .inr (1, [.ref a1])), (a1, .inl (cB, 864, .inl f))] [(cB, .int)] sz)) (va_Qv (fun (_ : Unit) => True) (fun _ t => ∃ (f2 : Nat → Int32), pPost dC dI (va_A [(h0, .inr (1, [.ref a1])), (a1, .inl (cB, 864, .inl f))] sz) [(h0, .inr (1, [.ref a1])), (a1, .inl (cB, 864, .inl f2))] [(cB, .int)] t) (va_A [(h0, .inr (1, [.ref a1])), (a1, .inl (cB, 864, .inl f))] sz)) 0 0 (va_A [(h0, .inr (1, [.ref a1])), (a1, .inl (cB, 864, .inl f))] sz) := by
  refine Met.ofW (cc := cX0_set) (maxL := 4) (ret := none) (by decide) rfl ?_
  intro p e s m args below meth c s₁ B hml hv
  obtain ⟨rfl, hsz, hP, hK, hD0, hE⟩ := hv
  have hx := B.exec
  have hb := B.bytes
  have hr := B.returns
  have hts0 := atoms_spec (ws := ws_ yX0_set cX0_set 4 none) B.pre
  have hts := fun (w : Cond) (h : w ∈ pw) => hts0 w (List.mem_cons_of_mem _ h)
  have hown : s.vm.findClass RX0 = some m.cls := findClass_of_methodNamed B.named
  have hlocks := B.notSynchronized
  subst hsz
  have hD := hD0.self (sz := s.heap.size)
  generalize hAe : va_A [(h0, .inr (1, [.ref a1])), (a1, .inl (cB, 864, .inl f))] s.heap.size = A at hD hE ⊢
  have hA : ∀ q : Nat, s.heap.size ≤ q → A q := fun q h => by rw [← hAe]; exact Or.inr h
  have hS : va_S A s.heap s.heap [] := va_S.rf
  have hN := hE.1
  have hP : va_P (dC, dI) pcl [(h0, .inr (1, [.ref a1])), (a1, .inl (cB, 864, .inl f))] s.heap := hP
  have hl := lv_entry ([.ref h0, .int 101, .int 0]) (n := 4) (Nat.le_of_ble_eq_true rfl)
  rw [lg_entry_eq]
  generalize (lg_sl ([.ref h0, .int 101, .int 0]) ++ List.replicate (4 - (lg_sl ([.ref h0, .int 101, .int 0])).length) Slot.unset).toArray = ls at hl ⊢
  have hl : lv_has ls 4 [(0, .ref h0), (1, .int 101), (2, .int 0)] := hl
  obtain ⟨H, hH0⟩ : ∃ H, H = s.heap := ⟨_, rfl⟩
  rw [← hH0] at hP ⊢
  have hS : va_S A s.heap H [] := by rw [hH0]; exact hS
  refine lv_aload_n hx hb dX0_set_0 rfl (lv_at hl 0 rfl) ?_
  refine va_get (D := (dC, dI)) (ci := 1) (v := .ref a1) (C := RX0) (T := TX0) (N := 1) hx hb hts pinX0 hown hK hP 0 rfl rfl 0 (by decide) (hts _ e4) (fun _ h9 => h9) rfl dX0_set_1 ?_
  refine lv_iload_n hx hb dX0_set_4 rfl (lv_at hl 1 rfl) ?_
  refine lv_bipush (v := 8) hx hb dX0_set_5 (by decide) ?_
  refine lv_imul hx hb dX0_set_7 ?_
  refine W.eq (g2 := F0 m 8 ls [.int 808, .ref a1]) (by rfl) ?_
  refine lv_iload_n hx hb dX0_set_8 rfl (lv_at hl 2 rfl) ?_
  refine va_iast hx hb hK hP hD hS 1 0 rfl rfl (by unfold vp_in; decide) dX0_set_9 (fun H locs hP hD hS => ?_)
  obtain ⟨f1, ef1⟩ : ∃ f9, f9 = upd f (808 : Int32).toNatClampNeg 0 := ⟨_, rfl⟩
  rw [← ef1] at hP hD
  have hP : va_P (dC, dI) pcl [(h0, .inr (1, [.ref a1])), (a1, .inl (cB, 864, .inl f1))] H := hP
  have hD : va_D A [(h0, .inr (1, [.ref a1])), (a1, .inl (cB, 864, .inl f1))] := hD
  refine lv_iconst (v := 1) hx hb dX0_set_10 (by decide) ?_
  refine lv_istore_n (lv' := [(3, .int 1), (0, .ref h0), (1, .int 101), (2, .int 0)]) hx hb dX0_set_11 rfl hl (by decide) rfl (fun ls hl => ?_)
  refine lv_iload_n hx hb dX0_set_12 rfl (lv_at hl 0 rfl) ?_
  refine lv_bipush (v := 8) hx hb dX0_set_13 (by decide) ?_
  refine lv_icmp_ge (tgt := 44) hx hb dX0_set_15 (by decide) (fun h9 => absurd h9 (by decide)) (fun _ => ?_)
  refine lv_aload_n hx hb dX0_set_18 rfl (lv_at hl 1 rfl) ?_
  refine va_get (D := (dC, dI)) (ci := 1) (v := .ref a1) (C := RX0) (T := TX0) (N := 1) hx hb hts pinX0 hown hK hP 0 rfl rfl 0 (by decide) (hts _ e4) (fun _ h9 => h9) rfl dX0_set_19 ?_
  refine lv_iload_n hx hb dX0_set_22 rfl (lv_at hl 2 rfl) ?_
  refine lv_bipush (v := 8) hx hb dX0_set_23 (by decide) ?_
  refine lv_imul hx hb dX0_set_25 ?_
  refine W.eq (g2 := F0 m 26 ls [.int 808, .ref a1]) (by rfl) ?_
  refine lv_iload_n hx hb dX0_set_26 rfl (lv_at hl 0 rfl) ?_
  refine lv_iadd hx hb dX0_set_27 ?_
  refine W.eq (g2 := F0 m 28 ls [.int 809, .ref a1]) (by rfl) ?_
  refine lv_iload_n hx hb dX0_set_28 rfl (lv_at hl 3 rfl) ?_
  refine lv_if_ge (tgt := 36) hx hb dX0_set_29 (by decide) (fun _ => ?_) (fun h9 => absurd (by decide) h9)
  refine lv_iconst (v := 0) hx hb dX0_set_36 (by decide) ?_
  refine va_iast hx hb hK hP hD hS 1 0 rfl rfl (by unfold vp_in; decide) dX0_set_37 (fun H locs hP hD hS => ?_)
  obtain ⟨f2, ef2⟩ : ∃ f9, f9 = upd f1 (809 : Int32).toNatClampNeg 0 := ⟨_, rfl⟩
  rw [← ef2] at hP hD
  have hP : va_P (dC, dI) pcl [(h0, .inr (1, [.ref a1])), (a1, .inl (cB, 864, .inl f2))] H := hP
  have hD : va_D A [(h0, .inr (1, [.ref a1])), (a1, .inl (cB, 864, .inl f2))] := hD
  refine lv_iinc (v := 2) (lv' := [(3, .int 2), (0, .ref h0), (1, .int 101), (2, .int 0)]) hx hb dX0_set_38 hl (k := 0) rfl (by decide) (by decide) rfl (fun ls hl => ?_)
  refine lv_goto (tgt := 12) hx hb dX0_set_41 (by decide) ?_
  refine lv_iload_n hx hb dX0_set_12 rfl (lv_at hl 0 rfl) ?_
  refine lv_bipush (v := 8) hx hb dX0_set_13 (by decide) ?_
  refine lv_icmp_ge (tgt := 44) hx hb dX0_set_15 (by decide) (fun h9 => absurd h9 (by decide)) (fun _ => ?_)
  refine lv_aload_n hx hb dX0_set_18 rfl (lv_at hl 1 rfl) ?_
  refine va_get (D := (dC, dI)) (ci := 1) (v := .ref a1) (C := RX0) (T := TX0) (N := 1) hx hb hts pinX0 hown hK hP 0 rfl rfl 0 (by decide) (hts _ e4) (fun _ h9 => h9) rfl dX0_set_19 ?_
  refine lv_iload_n hx hb dX0_set_22 rfl (lv_at hl 2 rfl) ?_
  refine lv_bipush (v := 8) hx hb dX0_set_23 (by decide) ?_
  refine lv_imul hx hb dX0_set_25 ?_
  refine W.eq (g2 := F0 m 26 ls [.int 808, .ref a1]) (by rfl) ?_
  refine lv_iload_n hx hb dX0_set_26 rfl (lv_at hl 0 rfl) ?_
  refine lv_iadd hx hb dX0_set_27 ?_
  refine W.eq (g2 := F0 m 28 ls [.int 810, .ref a1]) (by rfl) ?_
  refine lv_iload_n hx hb dX0_set_28 rfl (lv_at hl 3 rfl) ?_
  refine lv_if_ge (tgt := 36) hx hb dX0_set_29 (by decide) (fun _ => ?_) (fun h9 => absurd (by decide) h9)
  refine lv_iconst (v := 0) hx hb dX0_set_36 (by decide) ?_
  refine va_iast hx hb hK hP hD hS 1 0 rfl rfl (by unfold vp_in; decide) dX0_set_37 (fun H locs hP hD hS => ?_)
  obtain ⟨f3, ef3⟩ : ∃ f9, f9 = upd f2 (810 : Int32).toNatClampNeg 0 := ⟨_, rfl⟩
  rw [← ef3] at hP hD
  have hP : va_P (dC, dI) pcl [(h0, .inr (1, [.ref a1])), (a1, .inl (cB, 864, .inl f3))] H := hP
  have hD : va_D A [(h0, .inr (1, [.ref a1])), (a1, .inl (cB, 864, .inl f3))] := hD
  refine lv_iinc (v := 3) (lv' := [(3, .int 3), (0, .ref h0), (1, .int 101), (2, .int 0)]) hx hb dX0_set_38 hl (k := 0) rfl (by decide) (by decide) rfl (fun ls hl => ?_)
  refine lv_goto (tgt := 12) hx hb dX0_set_41 (by decide) ?_
  refine lv_iload_n hx hb dX0_set_12 rfl (lv_at hl 0 rfl) ?_
  refine lv_bipush (v := 8) hx hb dX0_set_13 (by decide) ?_
  refine lv_icmp_ge (tgt := 44) hx hb dX0_set_15 (by decide) (fun h9 => absurd h9 (by decide)) (fun _ => ?_)
  refine lv_aload_n hx hb dX0_set_18 rfl (lv_at hl 1 rfl) ?_
  refine va_get (D := (dC, dI)) (ci := 1) (v := .ref a1) (C := RX0) (T := TX0) (N := 1) hx hb hts pinX0 hown hK hP 0 rfl rfl 0 (by decide) (hts _ e4) (fun _ h9 => h9) rfl dX0_set_19 ?_
  refine lv_iload_n hx hb dX0_set_22 rfl (lv_at hl 2 rfl) ?_
  refine lv_bipush (v := 8) hx hb dX0_set_23 (by decide) ?_
  refine lv_imul hx hb dX0_set_25 ?_
  refine W.eq (g2 := F0 m 26 ls [.int 808, .ref a1]) (by rfl) ?_
  refine lv_iload_n hx hb dX0_set_26 rfl (lv_at hl 0 rfl) ?_
  refine lv_iadd hx hb dX0_set_27 ?_
  refine W.eq (g2 := F0 m 28 ls [.int 811, .ref a1]) (by rfl) ?_
  refine lv_iload_n hx hb dX0_set_28 rfl (lv_at hl 3 rfl) ?_
  refine lv_if_ge (tgt := 36) hx hb dX0_set_29 (by decide) (fun _ => ?_) (fun h9 => absurd (by decide) h9)
  refine lv_iconst (v := 0) hx hb dX0_set_36 (by decide) ?_
  refine va_iast hx hb hK hP hD hS 1 0 rfl rfl (by unfold vp_in; decide) dX0_set_37 (fun H locs hP hD hS => ?_)
  obtain ⟨f4, ef4⟩ : ∃ f9, f9 = upd f3 (811 : Int32).toNatClampNeg 0 := ⟨_, rfl⟩
  rw [← ef4] at hP hD
  have hP : va_P (dC, dI) pcl [(h0, .inr (1, [.ref a1])), (a1, .inl (cB, 864, .inl f4))] H := hP
  have hD : va_D A [(h0, .inr (1, [.ref a1])), (a1, .inl (cB, 864, .inl f4))] := hD
  refine lv_iinc (v := 4) (lv' := [(3, .int 4), (0, .ref h0), (1, .int 101), (2, .int 0)]) hx hb dX0_set_38 hl (k := 0) rfl (by decide) (by decide) rfl (fun ls hl => ?_)
  refine lv_goto (tgt := 12) hx hb dX0_set_41 (by decide) ?_
  refine lv_iload_n hx hb dX0_set_12 rfl (lv_at hl 0 rfl) ?_
  refine lv_bipush (v := 8) hx hb dX0_set_13 (by decide) ?_
  refine lv_icmp_ge (tgt := 44) hx hb dX0_set_15 (by decide) (fun h9 => absurd h9 (by decide)) (fun _ => ?_)
  refine lv_aload_n hx hb dX0_set_18 rfl (lv_at hl 1 rfl) ?_
  refine va_get (D := (dC, dI)) (ci := 1) (v := .ref a1) (C := RX0) (T := TX0) (N := 1) hx hb hts pinX0 hown hK hP 0 rfl rfl 0 (by decide) (hts _ e4) (fun _ h9 => h9) rfl dX0_set_19 ?_
  refine lv_iload_n hx hb dX0_set_22 rfl (lv_at hl 2 rfl) ?_
  refine lv_bipush (v := 8) hx hb dX0_set_23 (by decide) ?_
  refine lv_imul hx hb dX0_set_25 ?_
  refine W.eq (g2 := F0 m 26 ls [.int 808, .ref a1]) (by rfl) ?_
  refine lv_iload_n hx hb dX0_set_26 rfl (lv_at hl 0 rfl) ?_
  refine lv_iadd hx hb dX0_set_27 ?_
  refine W.eq (g2 := F0 m 28 ls [.int 812, .ref a1]) (by rfl) ?_
  refine lv_iload_n hx hb dX0_set_28 rfl (lv_at hl 3 rfl) ?_
  refine lv_if_ge (tgt := 36) hx hb dX0_set_29 (by decide) (fun _ => ?_) (fun h9 => absurd (by decide) h9)
  refine lv_iconst (v := 0) hx hb dX0_set_36 (by decide) ?_
  refine va_iast hx hb hK hP hD hS 1 0 rfl rfl (by unfold vp_in; decide) dX0_set_37 (fun H locs hP hD hS => ?_)
  obtain ⟨f5, ef5⟩ : ∃ f9, f9 = upd f4 (812 : Int32).toNatClampNeg 0 := ⟨_, rfl⟩
  rw [← ef5] at hP hD
  have hP : va_P (dC, dI) pcl [(h0, .inr (1, [.ref a1])), (a1, .inl (cB, 864, .inl f5))] H := hP
  have hD : va_D A [(h0, .inr (1, [.ref a1])), (a1, .inl (cB, 864, .inl f5))] := hD
  refine lv_iinc (v := 5) (lv' := [(3, .int 5), (0, .ref h0), (1, .int 101), (2, .int 0)]) hx hb dX0_set_38 hl (k := 0) rfl (by decide) (by decide) rfl (fun ls hl => ?_)
  refine lv_goto (tgt := 12) hx hb dX0_set_41 (by decide) ?_
  refine lv_iload_n hx hb dX0_set_12 rfl (lv_at hl 0 rfl) ?_
  refine lv_bipush (v := 8) hx hb dX0_set_13 (by decide) ?_
  refine lv_icmp_ge (tgt := 44) hx hb dX0_set_15 (by decide) (fun h9 => absurd h9 (by decide)) (fun _ => ?_)
  refine lv_aload_n hx hb dX0_set_18 rfl (lv_at hl 1 rfl) ?_
  refine va_get (D := (dC, dI)) (ci := 1) (v := .ref a1) (C := RX0) (T := TX0) (N := 1) hx hb hts pinX0 hown hK hP 0 rfl rfl 0 (by decide) (hts _ e4) (fun _ h9 => h9) rfl dX0_set_19 ?_
  refine lv_iload_n hx hb dX0_set_22 rfl (lv_at hl 2 rfl) ?_
  refine lv_bipush (v := 8) hx hb dX0_set_23 (by decide) ?_
  refine lv_imul hx hb dX0_set_25 ?_
  refine W.eq (g2 := F0 m 26 ls [.int 808, .ref a1]) (by rfl) ?_
  refine lv_iload_n hx hb dX0_set_26 rfl (lv_at hl 0 rfl) ?_
  refine lv_iadd hx hb dX0_set_27 ?_
  refine W.eq (g2 := F0 m 28 ls [.int 813, .ref a1]) (by rfl) ?_
  refine lv_iload_n hx hb dX0_set_28 rfl (lv_at hl 3 rfl) ?_
  refine lv_if_ge (tgt := 36) hx hb dX0_set_29 (by decide) (fun _ => ?_) (fun h9 => absurd (by decide) h9)
  refine lv_iconst (v := 0) hx hb dX0_set_36 (by decide) ?_
  refine va_iast hx hb hK hP hD hS 1 0 rfl rfl (by unfold vp_in; decide) dX0_set_37 (fun H locs hP hD hS => ?_)
  obtain ⟨f6, ef6⟩ : ∃ f9, f9 = upd f5 (813 : Int32).toNatClampNeg 0 := ⟨_, rfl⟩
  rw [← ef6] at hP hD
  have hP : va_P (dC, dI) pcl [(h0, .inr (1, [.ref a1])), (a1, .inl (cB, 864, .inl f6))] H := hP
  have hD : va_D A [(h0, .inr (1, [.ref a1])), (a1, .inl (cB, 864, .inl f6))] := hD
  refine lv_iinc (v := 6) (lv' := [(3, .int 6), (0, .ref h0), (1, .int 101), (2, .int 0)]) hx hb dX0_set_38 hl (k := 0) rfl (by decide) (by decide) rfl (fun ls hl => ?_)
  refine lv_goto (tgt := 12) hx hb dX0_set_41 (by decide) ?_
  refine lv_iload_n hx hb dX0_set_12 rfl (lv_at hl 0 rfl) ?_
  refine lv_bipush (v := 8) hx hb dX0_set_13 (by decide) ?_
  refine lv_icmp_ge (tgt := 44) hx hb dX0_set_15 (by decide) (fun h9 => absurd h9 (by decide)) (fun _ => ?_)
  refine lv_aload_n hx hb dX0_set_18 rfl (lv_at hl 1 rfl) ?_
  refine va_get (D := (dC, dI)) (ci := 1) (v := .ref a1) (C := RX0) (T := TX0) (N := 1) hx hb hts pinX0 hown hK hP 0 rfl rfl 0 (by decide) (hts _ e4) (fun _ h9 => h9) rfl dX0_set_19 ?_
  refine lv_iload_n hx hb dX0_set_22 rfl (lv_at hl 2 rfl) ?_
  refine lv_bipush (v := 8) hx hb dX0_set_23 (by decide) ?_
  refine lv_imul hx hb dX0_set_25 ?_
  refine W.eq (g2 := F0 m 26 ls [.int 808, .ref a1]) (by rfl) ?_
  refine lv_iload_n hx hb dX0_set_26 rfl (lv_at hl 0 rfl) ?_
  refine lv_iadd hx hb dX0_set_27 ?_
  refine W.eq (g2 := F0 m 28 ls [.int 814, .ref a1]) (by rfl) ?_
  refine lv_iload_n hx hb dX0_set_28 rfl (lv_at hl 3 rfl) ?_
  refine lv_if_ge (tgt := 36) hx hb dX0_set_29 (by decide) (fun _ => ?_) (fun h9 => absurd (by decide) h9)
  refine lv_iconst (v := 0) hx hb dX0_set_36 (by decide) ?_
  refine va_iast hx hb hK hP hD hS 1 0 rfl rfl (by unfold vp_in; decide) dX0_set_37 (fun H locs hP hD hS => ?_)
  obtain ⟨f7, ef7⟩ : ∃ f9, f9 = upd f6 (814 : Int32).toNatClampNeg 0 := ⟨_, rfl⟩
  rw [← ef7] at hP hD
  have hP : va_P (dC, dI) pcl [(h0, .inr (1, [.ref a1])), (a1, .inl (cB, 864, .inl f7))] H := hP
  have hD : va_D A [(h0, .inr (1, [.ref a1])), (a1, .inl (cB, 864, .inl f7))] := hD
  refine lv_iinc (v := 7) (lv' := [(3, .int 7), (0, .ref h0), (1, .int 101), (2, .int 0)]) hx hb dX0_set_38 hl (k := 0) rfl (by decide) (by decide) rfl (fun ls hl => ?_)
  refine lv_goto (tgt := 12) hx hb dX0_set_41 (by decide) ?_
  refine lv_iload_n hx hb dX0_set_12 rfl (lv_at hl 0 rfl) ?_
  refine lv_bipush (v := 8) hx hb dX0_set_13 (by decide) ?_
  refine lv_icmp_ge (tgt := 44) hx hb dX0_set_15 (by decide) (fun h9 => absurd h9 (by decide)) (fun _ => ?_)
  refine lv_aload_n hx hb dX0_set_18 rfl (lv_at hl 1 rfl) ?_
  refine va_get (D := (dC, dI)) (ci := 1) (v := .ref a1) (C := RX0) (T := TX0) (N := 1) hx hb hts pinX0 hown hK hP 0 rfl rfl 0 (by decide) (hts _ e4) (fun _ h9 => h9) rfl dX0_set_19 ?_
  refine lv_iload_n hx hb dX0_set_22 rfl (lv_at hl 2 rfl) ?_
  refine lv_bipush (v := 8) hx hb dX0_set_23 (by decide) ?_
  refine lv_imul hx hb dX0_set_25 ?_
  refine W.eq (g2 := F0 m 26 ls [.int 808, .ref a1]) (by rfl) ?_
  refine lv_iload_n hx hb dX0_set_26 rfl (lv_at hl 0 rfl) ?_
  refine lv_iadd hx hb dX0_set_27 ?_
  refine W.eq (g2 := F0 m 28 ls [.int 815, .ref a1]) (by rfl) ?_
  refine lv_iload_n hx hb dX0_set_28 rfl (lv_at hl 3 rfl) ?_
  refine lv_if_ge (tgt := 36) hx hb dX0_set_29 (by decide) (fun _ => ?_) (fun h9 => absurd (by decide) h9)
  refine lv_iconst (v := 0) hx hb dX0_set_36 (by decide) ?_
  refine va_iast hx hb hK hP hD hS 1 0 rfl rfl (by unfold vp_in; decide) dX0_set_37 (fun H locs hP hD hS => ?_)
  obtain ⟨f8, ef8⟩ : ∃ f9, f9 = upd f7 (815 : Int32).toNatClampNeg 0 := ⟨_, rfl⟩
  rw [← ef8] at hP hD
  have hP : va_P (dC, dI) pcl [(h0, .inr (1, [.ref a1])), (a1, .inl (cB, 864, .inl f8))] H := hP
  have hD : va_D A [(h0, .inr (1, [.ref a1])), (a1, .inl (cB, 864, .inl f8))] := hD
  refine lv_iinc (v := 8) (lv' := [(3, .int 8), (0, .ref h0), (1, .int 101), (2, .int 0)]) hx hb dX0_set_38 hl (k := 0) rfl (by decide) (by decide) rfl (fun ls hl => ?_)
  refine lv_goto (tgt := 12) hx hb dX0_set_41 (by decide) ?_
  refine lv_iload_n hx hb dX0_set_12 rfl (lv_at hl 0 rfl) ?_
  refine lv_bipush (v := 8) hx hb dX0_set_13 (by decide) ?_
  refine lv_icmp_ge (tgt := 44) hx hb dX0_set_15 (by decide) (fun _ => ?_) (fun h9 => absurd (by decide) h9)
  have hP9 := hP.sub (ws' := [(h0, .inr (1, [.ref a1])), (a1, .inl (cB, 864, .inl f8))]) [0, 1] rfl
  have hD9 := hD.sub (ws' := [(h0, .inr (1, [.ref a1])), (a1, .inl (cB, 864, .inl f8))]) [0, 1] (by decide) rfl
  have hK9 := hK.sub (tys' := [(cB, .int)]) [0] rfl
  refine W.widen (k := 0) (n := 0) (Nat.le_of_ble_eq_true rfl) (Nat.le_of_ble_eq_true rfl) ?_
  exact W.vret hx hb hr (fun t ht hW => ⟨⟨(), rfl, trivial, f8, by rw [ht]; exact hP9, va_K.moved hW.alike hK9, hD9⟩, hS.F ht⟩) hS.2.2 dX0_set_44
set_option maxHeartbeats 4000000 in
set_option maxRecDepth 100000 in
theorem c_X0_set1 (l : Launch) (dC : Nat → ClassId) (dI : Nat → Nat → Nat) (z : pG) (h0 : Nat) (a1 : Nat) (cB : ClassId) (f : Nat → Int32) (sz : Nat) : Met l yX0_set (ws_ yX0_set cX0_set 4 none) ({ frames := 0, cells := 0, slots := 0, locals := 0 }) (va_Pc [.ref h0, .int 102, .int 1] (pPre z dC dI [(h0, .inr (1, [.ref a1])), (a1, .inl (cB, 864, .inl f))] [(cB, .int)] sz)) (va_Qv (fun (_ : Unit) => True) (fun _ t => ∃ (f2 : Nat → Int32), pPost dC dI (va_A [(h0, .inr (1, [.ref a1])), (a1, .inl (cB, 864, .inl f))] sz) [(h0, .inr (1, [.ref a1])), (a1, .inl (cB, 864, .inl f2))] [(cB, .int)] t) (va_A [(h0, .inr (1, [.ref a1])), (a1, .inl (cB, 864, .inl f))] sz)) 0 0 (va_A [(h0, .inr (1, [.ref a1])), (a1, .inl (cB, 864, .inl f))] sz) := by
  refine Met.ofW (cc := cX0_set) (maxL := 4) (ret := none) (by decide) rfl ?_
  intro p e s m args below meth c s₁ B hml hv
  obtain ⟨rfl, hsz, hP, hK, hD0, hE⟩ := hv
  have hx := B.exec
  have hb := B.bytes
  have hr := B.returns
  have hts0 := atoms_spec (ws := ws_ yX0_set cX0_set 4 none) B.pre
  have hts := fun (w : Cond) (h : w ∈ pw) => hts0 w (List.mem_cons_of_mem _ h)
  have hown : s.vm.findClass RX0 = some m.cls := findClass_of_methodNamed B.named
  have hlocks := B.notSynchronized
  subst hsz
  have hD := hD0.self (sz := s.heap.size)
  generalize hAe : va_A [(h0, .inr (1, [.ref a1])), (a1, .inl (cB, 864, .inl f))] s.heap.size = A at hD hE ⊢
  have hA : ∀ q : Nat, s.heap.size ≤ q → A q := fun q h => by rw [← hAe]; exact Or.inr h
  have hS : va_S A s.heap s.heap [] := va_S.rf
  have hN := hE.1
  have hP : va_P (dC, dI) pcl [(h0, .inr (1, [.ref a1])), (a1, .inl (cB, 864, .inl f))] s.heap := hP
  have hl := lv_entry ([.ref h0, .int 102, .int 1]) (n := 4) (Nat.le_of_ble_eq_true rfl)
  rw [lg_entry_eq]
  generalize (lg_sl ([.ref h0, .int 102, .int 1]) ++ List.replicate (4 - (lg_sl ([.ref h0, .int 102, .int 1])).length) Slot.unset).toArray = ls at hl ⊢
  have hl : lv_has ls 4 [(0, .ref h0), (1, .int 102), (2, .int 1)] := hl
  obtain ⟨H, hH0⟩ : ∃ H, H = s.heap := ⟨_, rfl⟩
  rw [← hH0] at hP ⊢
  have hS : va_S A s.heap H [] := by rw [hH0]; exact hS
  refine lv_aload_n hx hb dX0_set_0 rfl (lv_at hl 0 rfl) ?_
  refine va_get (D := (dC, dI)) (ci := 1) (v := .ref a1) (C := RX0) (T := TX0) (N := 1) hx hb hts pinX0 hown hK hP 0 rfl rfl 0 (by decide) (hts _ e4) (fun _ h9 => h9) rfl dX0_set_1 ?_
  refine lv_iload_n hx hb dX0_set_4 rfl (lv_at hl 1 rfl) ?_
  refine lv_bipush (v := 8) hx hb dX0_set_5 (by decide) ?_
  refine lv_imul hx hb dX0_set_7 ?_
  refine W.eq (g2 := F0 m 8 ls [.int 816, .ref a1]) (by rfl) ?_
  refine lv_iload_n hx hb dX0_set_8 rfl (lv_at hl 2 rfl) ?_
  refine va_iast hx hb hK hP hD hS 1 0 rfl rfl (by unfold vp_in; decide) dX0_set_9 (fun H locs hP hD hS => ?_)
  obtain ⟨f1, ef1⟩ : ∃ f9, f9 = upd f (816 : Int32).toNatClampNeg 1 := ⟨_, rfl⟩
  rw [← ef1] at hP hD
  have hP : va_P (dC, dI) pcl [(h0, .inr (1, [.ref a1])), (a1, .inl (cB, 864, .inl f1))] H := hP
  have hD : va_D A [(h0, .inr (1, [.ref a1])), (a1, .inl (cB, 864, .inl f1))] := hD
  refine lv_iconst (v := 1) hx hb dX0_set_10 (by decide) ?_
  refine lv_istore_n (lv' := [(3, .int 1), (0, .ref h0), (1, .int 102), (2, .int 1)]) hx hb dX0_set_11 rfl hl (by decide) rfl (fun ls hl => ?_)
  refine lv_iload_n hx hb dX0_set_12 rfl (lv_at hl 0 rfl) ?_
  refine lv_bipush (v := 8) hx hb dX0_set_13 (by decide) ?_
  refine lv_icmp_ge (tgt := 44) hx hb dX0_set_15 (by decide) (fun h9 => absurd h9 (by decide)) (fun _ => ?_)
  refine lv_aload_n hx hb dX0_set_18 rfl (lv_at hl 1 rfl) ?_
  refine va_get (D := (dC, dI)) (ci := 1) (v := .ref a1) (C := RX0) (T := TX0) (N := 1) hx hb hts pinX0 hown hK hP 0 rfl rfl 0 (by decide) (hts _ e4) (fun _ h9 => h9) rfl dX0_set_19 ?_
  refine lv_iload_n hx hb dX0_set_22 rfl (lv_at hl 2 rfl) ?_
  refine lv_bipush (v := 8) hx hb dX0_set_23 (by decide) ?_
  refine lv_imul hx hb dX0_set_25 ?_
  refine W.eq (g2 := F0 m 26 ls [.int 816, .ref a1]) (by rfl) ?_
  refine lv_iload_n hx hb dX0_set_26 rfl (lv_at hl 0 rfl) ?_
  refine lv_iadd hx hb dX0_set_27 ?_
  refine W.eq (g2 := F0 m 28 ls [.int 817, .ref a1]) (by rfl) ?_
  refine lv_iload_n hx hb dX0_set_28 rfl (lv_at hl 3 rfl) ?_
  refine lv_if_ge (tgt := 36) hx hb dX0_set_29 (by decide) (fun _ => ?_) (fun h9 => absurd (by decide) h9)
  refine lv_iconst (v := 0) hx hb dX0_set_36 (by decide) ?_
  refine va_iast hx hb hK hP hD hS 1 0 rfl rfl (by unfold vp_in; decide) dX0_set_37 (fun H locs hP hD hS => ?_)
  obtain ⟨f2, ef2⟩ : ∃ f9, f9 = upd f1 (817 : Int32).toNatClampNeg 0 := ⟨_, rfl⟩
  rw [← ef2] at hP hD
  have hP : va_P (dC, dI) pcl [(h0, .inr (1, [.ref a1])), (a1, .inl (cB, 864, .inl f2))] H := hP
  have hD : va_D A [(h0, .inr (1, [.ref a1])), (a1, .inl (cB, 864, .inl f2))] := hD
  refine lv_iinc (v := 2) (lv' := [(3, .int 2), (0, .ref h0), (1, .int 102), (2, .int 1)]) hx hb dX0_set_38 hl (k := 0) rfl (by decide) (by decide) rfl (fun ls hl => ?_)
  refine lv_goto (tgt := 12) hx hb dX0_set_41 (by decide) ?_
  refine lv_iload_n hx hb dX0_set_12 rfl (lv_at hl 0 rfl) ?_
  refine lv_bipush (v := 8) hx hb dX0_set_13 (by decide) ?_
  refine lv_icmp_ge (tgt := 44) hx hb dX0_set_15 (by decide) (fun h9 => absurd h9 (by decide)) (fun _ => ?_)
  refine lv_aload_n hx hb dX0_set_18 rfl (lv_at hl 1 rfl) ?_
  refine va_get (D := (dC, dI)) (ci := 1) (v := .ref a1) (C := RX0) (T := TX0) (N := 1) hx hb hts pinX0 hown hK hP 0 rfl rfl 0 (by decide) (hts _ e4) (fun _ h9 => h9) rfl dX0_set_19 ?_
  refine lv_iload_n hx hb dX0_set_22 rfl (lv_at hl 2 rfl) ?_
  refine lv_bipush (v := 8) hx hb dX0_set_23 (by decide) ?_
  refine lv_imul hx hb dX0_set_25 ?_
  refine W.eq (g2 := F0 m 26 ls [.int 816, .ref a1]) (by rfl) ?_
  refine lv_iload_n hx hb dX0_set_26 rfl (lv_at hl 0 rfl) ?_
  refine lv_iadd hx hb dX0_set_27 ?_
  refine W.eq (g2 := F0 m 28 ls [.int 818, .ref a1]) (by rfl) ?_
  refine lv_iload_n hx hb dX0_set_28 rfl (lv_at hl 3 rfl) ?_
  refine lv_if_ge (tgt := 36) hx hb dX0_set_29 (by decide) (fun _ => ?_) (fun h9 => absurd (by decide) h9)
  refine lv_iconst (v := 0) hx hb dX0_set_36 (by decide) ?_
  refine va_iast hx hb hK hP hD hS 1 0 rfl rfl (by unfold vp_in; decide) dX0_set_37 (fun H locs hP hD hS => ?_)
  obtain ⟨f3, ef3⟩ : ∃ f9, f9 = upd f2 (818 : Int32).toNatClampNeg 0 := ⟨_, rfl⟩
  rw [← ef3] at hP hD
  have hP : va_P (dC, dI) pcl [(h0, .inr (1, [.ref a1])), (a1, .inl (cB, 864, .inl f3))] H := hP
  have hD : va_D A [(h0, .inr (1, [.ref a1])), (a1, .inl (cB, 864, .inl f3))] := hD
  refine lv_iinc (v := 3) (lv' := [(3, .int 3), (0, .ref h0), (1, .int 102), (2, .int 1)]) hx hb dX0_set_38 hl (k := 0) rfl (by decide) (by decide) rfl (fun ls hl => ?_)
  refine lv_goto (tgt := 12) hx hb dX0_set_41 (by decide) ?_
  refine lv_iload_n hx hb dX0_set_12 rfl (lv_at hl 0 rfl) ?_
  refine lv_bipush (v := 8) hx hb dX0_set_13 (by decide) ?_
  refine lv_icmp_ge (tgt := 44) hx hb dX0_set_15 (by decide) (fun h9 => absurd h9 (by decide)) (fun _ => ?_)
  refine lv_aload_n hx hb dX0_set_18 rfl (lv_at hl 1 rfl) ?_
  refine va_get (D := (dC, dI)) (ci := 1) (v := .ref a1) (C := RX0) (T := TX0) (N := 1) hx hb hts pinX0 hown hK hP 0 rfl rfl 0 (by decide) (hts _ e4) (fun _ h9 => h9) rfl dX0_set_19 ?_
  refine lv_iload_n hx hb dX0_set_22 rfl (lv_at hl 2 rfl) ?_
  refine lv_bipush (v := 8) hx hb dX0_set_23 (by decide) ?_
  refine lv_imul hx hb dX0_set_25 ?_
  refine W.eq (g2 := F0 m 26 ls [.int 816, .ref a1]) (by rfl) ?_
  refine lv_iload_n hx hb dX0_set_26 rfl (lv_at hl 0 rfl) ?_
  refine lv_iadd hx hb dX0_set_27 ?_
  refine W.eq (g2 := F0 m 28 ls [.int 819, .ref a1]) (by rfl) ?_
  refine lv_iload_n hx hb dX0_set_28 rfl (lv_at hl 3 rfl) ?_
  refine lv_if_ge (tgt := 36) hx hb dX0_set_29 (by decide) (fun _ => ?_) (fun h9 => absurd (by decide) h9)
  refine lv_iconst (v := 0) hx hb dX0_set_36 (by decide) ?_
  refine va_iast hx hb hK hP hD hS 1 0 rfl rfl (by unfold vp_in; decide) dX0_set_37 (fun H locs hP hD hS => ?_)
  obtain ⟨f4, ef4⟩ : ∃ f9, f9 = upd f3 (819 : Int32).toNatClampNeg 0 := ⟨_, rfl⟩
  rw [← ef4] at hP hD
  have hP : va_P (dC, dI) pcl [(h0, .inr (1, [.ref a1])), (a1, .inl (cB, 864, .inl f4))] H := hP
  have hD : va_D A [(h0, .inr (1, [.ref a1])), (a1, .inl (cB, 864, .inl f4))] := hD
  refine lv_iinc (v := 4) (lv' := [(3, .int 4), (0, .ref h0), (1, .int 102), (2, .int 1)]) hx hb dX0_set_38 hl (k := 0) rfl (by decide) (by decide) rfl (fun ls hl => ?_)
  refine lv_goto (tgt := 12) hx hb dX0_set_41 (by decide) ?_
  refine lv_iload_n hx hb dX0_set_12 rfl (lv_at hl 0 rfl) ?_
  refine lv_bipush (v := 8) hx hb dX0_set_13 (by decide) ?_
  refine lv_icmp_ge (tgt := 44) hx hb dX0_set_15 (by decide) (fun h9 => absurd h9 (by decide)) (fun _ => ?_)
  refine lv_aload_n hx hb dX0_set_18 rfl (lv_at hl 1 rfl) ?_
  refine va_get (D := (dC, dI)) (ci := 1) (v := .ref a1) (C := RX0) (T := TX0) (N := 1) hx hb hts pinX0 hown hK hP 0 rfl rfl 0 (by decide) (hts _ e4) (fun _ h9 => h9) rfl dX0_set_19 ?_
  refine lv_iload_n hx hb dX0_set_22 rfl (lv_at hl 2 rfl) ?_
  refine lv_bipush (v := 8) hx hb dX0_set_23 (by decide) ?_
  refine lv_imul hx hb dX0_set_25 ?_
  refine W.eq (g2 := F0 m 26 ls [.int 816, .ref a1]) (by rfl) ?_
  refine lv_iload_n hx hb dX0_set_26 rfl (lv_at hl 0 rfl) ?_
  refine lv_iadd hx hb dX0_set_27 ?_
  refine W.eq (g2 := F0 m 28 ls [.int 820, .ref a1]) (by rfl) ?_
  refine lv_iload_n hx hb dX0_set_28 rfl (lv_at hl 3 rfl) ?_
  refine lv_if_ge (tgt := 36) hx hb dX0_set_29 (by decide) (fun _ => ?_) (fun h9 => absurd (by decide) h9)
  refine lv_iconst (v := 0) hx hb dX0_set_36 (by decide) ?_
  refine va_iast hx hb hK hP hD hS 1 0 rfl rfl (by unfold vp_in; decide) dX0_set_37 (fun H locs hP hD hS => ?_)
  obtain ⟨f5, ef5⟩ : ∃ f9, f9 = upd f4 (820 : Int32).toNatClampNeg 0 := ⟨_, rfl⟩
  rw [← ef5] at hP hD
  have hP : va_P (dC, dI) pcl [(h0, .inr (1, [.ref a1])), (a1, .inl (cB, 864, .inl f5))] H := hP
  have hD : va_D A [(h0, .inr (1, [.ref a1])), (a1, .inl (cB, 864, .inl f5))] := hD
  refine lv_iinc (v := 5) (lv' := [(3, .int 5), (0, .ref h0), (1, .int 102), (2, .int 1)]) hx hb dX0_set_38 hl (k := 0) rfl (by decide) (by decide) rfl (fun ls hl => ?_)
  refine lv_goto (tgt := 12) hx hb dX0_set_41 (by decide) ?_
  refine lv_iload_n hx hb dX0_set_12 rfl (lv_at hl 0 rfl) ?_
  refine lv_bipush (v := 8) hx hb dX0_set_13 (by decide) ?_
  refine lv_icmp_ge (tgt := 44) hx hb dX0_set_15 (by decide) (fun h9 => absurd h9 (by decide)) (fun _ => ?_)
  refine lv_aload_n hx hb dX0_set_18 rfl (lv_at hl 1 rfl) ?_
  refine va_get (D := (dC, dI)) (ci := 1) (v := .ref a1) (C := RX0) (T := TX0) (N := 1) hx hb hts pinX0 hown hK hP 0 rfl rfl 0 (by decide) (hts _ e4) (fun _ h9 => h9) rfl dX0_set_19 ?_
  refine lv_iload_n hx hb dX0_set_22 rfl (lv_at hl 2 rfl) ?_
  refine lv_bipush (v := 8) hx hb dX0_set_23 (by decide) ?_
  refine lv_imul hx hb dX0_set_25 ?_
  refine W.eq (g2 := F0 m 26 ls [.int 816, .ref a1]) (by rfl) ?_
  refine lv_iload_n hx hb dX0_set_26 rfl (lv_at hl 0 rfl) ?_
  refine lv_iadd hx hb dX0_set_27 ?_
  refine W.eq (g2 := F0 m 28 ls [.int 821, .ref a1]) (by rfl) ?_
  refine lv_iload_n hx hb dX0_set_28 rfl (lv_at hl 3 rfl) ?_
  refine lv_if_ge (tgt := 36) hx hb dX0_set_29 (by decide) (fun _ => ?_) (fun h9 => absurd (by decide) h9)
  refine lv_iconst (v := 0) hx hb dX0_set_36 (by decide) ?_
  refine va_iast hx hb hK hP hD hS 1 0 rfl rfl (by unfold vp_in; decide) dX0_set_37 (fun H locs hP hD hS => ?_)
  obtain ⟨f6, ef6⟩ : ∃ f9, f9 = upd f5 (821 : Int32).toNatClampNeg 0 := ⟨_, rfl⟩
  rw [← ef6] at hP hD
  have hP : va_P (dC, dI) pcl [(h0, .inr (1, [.ref a1])), (a1, .inl (cB, 864, .inl f6))] H := hP
  have hD : va_D A [(h0, .inr (1, [.ref a1])), (a1, .inl (cB, 864, .inl f6))] := hD
  refine lv_iinc (v := 6) (lv' := [(3, .int 6), (0, .ref h0), (1, .int 102), (2, .int 1)]) hx hb dX0_set_38 hl (k := 0) rfl (by decide) (by decide) rfl (fun ls hl => ?_)
  refine lv_goto (tgt := 12) hx hb dX0_set_41 (by decide) ?_
  refine lv_iload_n hx hb dX0_set_12 rfl (lv_at hl 0 rfl) ?_
  refine lv_bipush (v := 8) hx hb dX0_set_13 (by decide) ?_
  refine lv_icmp_ge (tgt := 44) hx hb dX0_set_15 (by decide) (fun h9 => absurd h9 (by decide)) (fun _ => ?_)
  refine lv_aload_n hx hb dX0_set_18 rfl (lv_at hl 1 rfl) ?_
  refine va_get (D := (dC, dI)) (ci := 1) (v := .ref a1) (C := RX0) (T := TX0) (N := 1) hx hb hts pinX0 hown hK hP 0 rfl rfl 0 (by decide) (hts _ e4) (fun _ h9 => h9) rfl dX0_set_19 ?_
  refine lv_iload_n hx hb dX0_set_22 rfl (lv_at hl 2 rfl) ?_
  refine lv_bipush (v := 8) hx hb dX0_set_23 (by decide) ?_
  refine lv_imul hx hb dX0_set_25 ?_
  refine W.eq (g2 := F0 m 26 ls [.int 816, .ref a1]) (by rfl) ?_
  refine lv_iload_n hx hb dX0_set_26 rfl (lv_at hl 0 rfl) ?_
  refine lv_iadd hx hb dX0_set_27 ?_
  refine W.eq (g2 := F0 m 28 ls [.int 822, .ref a1]) (by rfl) ?_
  refine lv_iload_n hx hb dX0_set_28 rfl (lv_at hl 3 rfl) ?_
  refine lv_if_ge (tgt := 36) hx hb dX0_set_29 (by decide) (fun _ => ?_) (fun h9 => absurd (by decide) h9)
  refine lv_iconst (v := 0) hx hb dX0_set_36 (by decide) ?_
  refine va_iast hx hb hK hP hD hS 1 0 rfl rfl (by unfold vp_in; decide) dX0_set_37 (fun H locs hP hD hS => ?_)
  obtain ⟨f7, ef7⟩ : ∃ f9, f9 = upd f6 (822 : Int32).toNatClampNeg 0 := ⟨_, rfl⟩
  rw [← ef7] at hP hD
  have hP : va_P (dC, dI) pcl [(h0, .inr (1, [.ref a1])), (a1, .inl (cB, 864, .inl f7))] H := hP
  have hD : va_D A [(h0, .inr (1, [.ref a1])), (a1, .inl (cB, 864, .inl f7))] := hD
  refine lv_iinc (v := 7) (lv' := [(3, .int 7), (0, .ref h0), (1, .int 102), (2, .int 1)]) hx hb dX0_set_38 hl (k := 0) rfl (by decide) (by decide) rfl (fun ls hl => ?_)
  refine lv_goto (tgt := 12) hx hb dX0_set_41 (by decide) ?_
  refine lv_iload_n hx hb dX0_set_12 rfl (lv_at hl 0 rfl) ?_
  refine lv_bipush (v := 8) hx hb dX0_set_13 (by decide) ?_
  refine lv_icmp_ge (tgt := 44) hx hb dX0_set_15 (by decide) (fun h9 => absurd h9 (by decide)) (fun _ => ?_)
  refine lv_aload_n hx hb dX0_set_18 rfl (lv_at hl 1 rfl) ?_
  refine va_get (D := (dC, dI)) (ci := 1) (v := .ref a1) (C := RX0) (T := TX0) (N := 1) hx hb hts pinX0 hown hK hP 0 rfl rfl 0 (by decide) (hts _ e4) (fun _ h9 => h9) rfl dX0_set_19 ?_
  refine lv_iload_n hx hb dX0_set_22 rfl (lv_at hl 2 rfl) ?_
  refine lv_bipush (v := 8) hx hb dX0_set_23 (by decide) ?_
  refine lv_imul hx hb dX0_set_25 ?_
  refine W.eq (g2 := F0 m 26 ls [.int 816, .ref a1]) (by rfl) ?_
  refine lv_iload_n hx hb dX0_set_26 rfl (lv_at hl 0 rfl) ?_
  refine lv_iadd hx hb dX0_set_27 ?_
  refine W.eq (g2 := F0 m 28 ls [.int 823, .ref a1]) (by rfl) ?_
  refine lv_iload_n hx hb dX0_set_28 rfl (lv_at hl 3 rfl) ?_
  refine lv_if_ge (tgt := 36) hx hb dX0_set_29 (by decide) (fun _ => ?_) (fun h9 => absurd (by decide) h9)
  refine lv_iconst (v := 0) hx hb dX0_set_36 (by decide) ?_
  refine va_iast hx hb hK hP hD hS 1 0 rfl rfl (by unfold vp_in; decide) dX0_set_37 (fun H locs hP hD hS => ?_)
  obtain ⟨f8, ef8⟩ : ∃ f9, f9 = upd f7 (823 : Int32).toNatClampNeg 0 := ⟨_, rfl⟩
  rw [← ef8] at hP hD
  have hP : va_P (dC, dI) pcl [(h0, .inr (1, [.ref a1])), (a1, .inl (cB, 864, .inl f8))] H := hP
  have hD : va_D A [(h0, .inr (1, [.ref a1])), (a1, .inl (cB, 864, .inl f8))] := hD
  refine lv_iinc (v := 8) (lv' := [(3, .int 8), (0, .ref h0), (1, .int 102), (2, .int 1)]) hx hb dX0_set_38 hl (k := 0) rfl (by decide) (by decide) rfl (fun ls hl => ?_)
  refine lv_goto (tgt := 12) hx hb dX0_set_41 (by decide) ?_
  refine lv_iload_n hx hb dX0_set_12 rfl (lv_at hl 0 rfl) ?_
  refine lv_bipush (v := 8) hx hb dX0_set_13 (by decide) ?_
  refine lv_icmp_ge (tgt := 44) hx hb dX0_set_15 (by decide) (fun _ => ?_) (fun h9 => absurd (by decide) h9)
  have hP9 := hP.sub (ws' := [(h0, .inr (1, [.ref a1])), (a1, .inl (cB, 864, .inl f8))]) [0, 1] rfl
  have hD9 := hD.sub (ws' := [(h0, .inr (1, [.ref a1])), (a1, .inl (cB, 864, .inl f8))]) [0, 1] (by decide) rfl
  have hK9 := hK.sub (tys' := [(cB, .int)]) [0] rfl
  refine W.widen (k := 0) (n := 0) (Nat.le_of_ble_eq_true rfl) (Nat.le_of_ble_eq_true rfl) ?_
  exact W.vret hx hb hr (fun t ht hW => ⟨⟨(), rfl, trivial, f8, by rw [ht]; exact hP9, va_K.moved hW.alike hK9, hD9⟩, hS.F ht⟩) hS.2.2 dX0_set_44
set_option maxHeartbeats 4000000 in
set_option maxRecDepth 100000 in
theorem c_X0_set2 (l : Launch) (dC : Nat → ClassId) (dI : Nat → Nat → Nat) (z : pG) (h0 : Nat) (a1 : Nat) (cB : ClassId) (f : Nat → Int32) (sz : Nat) : Met l yX0_set (ws_ yX0_set cX0_set 4 none) ({ frames := 0, cells := 0, slots := 0, locals := 0 }) (va_Pc [.ref h0, .int 103, .int 2] (pPre z dC dI [(h0, .inr (1, [.ref a1])), (a1, .inl (cB, 864, .inl f))] [(cB, .int)] sz)) (va_Qv (fun (_ : Unit) => True) (fun _ t => ∃ (f2 : Nat → Int32), pPost dC dI (va_A [(h0, .inr (1, [.ref a1])), (a1, .inl (cB, 864, .inl f))] sz) [(h0, .inr (1, [.ref a1])), (a1, .inl (cB, 864, .inl f2))] [(cB, .int)] t) (va_A [(h0, .inr (1, [.ref a1])), (a1, .inl (cB, 864, .inl f))] sz)) 0 0 (va_A [(h0, .inr (1, [.ref a1])), (a1, .inl (cB, 864, .inl f))] sz) := by
  refine Met.ofW (cc := cX0_set) (maxL := 4) (ret := none) (by decide) rfl ?_
  intro p e s m args below meth c s₁ B hml hv
  obtain ⟨rfl, hsz, hP, hK, hD0, hE⟩ := hv
  have hx := B.exec
  have hb := B.bytes
  have hr := B.returns
  have hts0 := atoms_spec (ws := ws_ yX0_set cX0_set 4 none) B.pre
  have hts := fun (w : Cond) (h : w ∈ pw) => hts0 w (List.mem_cons_of_mem _ h)
  have hown : s.vm.findClass RX0 = some m.cls := findClass_of_methodNamed B.named
  have hlocks := B.notSynchronized
  subst hsz
  have hD := hD0.self (sz := s.heap.size)
  generalize hAe : va_A [(h0, .inr (1, [.ref a1])), (a1, .inl (cB, 864, .inl f))] s.heap.size = A at hD hE ⊢
  have hA : ∀ q : Nat, s.heap.size ≤ q → A q := fun q h => by rw [← hAe]; exact Or.inr h
  have hS : va_S A s.heap s.heap [] := va_S.rf
  have hN := hE.1
  have hP : va_P (dC, dI) pcl [(h0, .inr (1, [.ref a1])), (a1, .inl (cB, 864, .inl f))] s.heap := hP
  have hl := lv_entry ([.ref h0, .int 103, .int 2]) (n := 4) (Nat.le_of_ble_eq_true rfl)
  rw [lg_entry_eq]
  generalize (lg_sl ([.ref h0, .int 103, .int 2]) ++ List.replicate (4 - (lg_sl ([.ref h0, .int 103, .int 2])).length) Slot.unset).toArray = ls at hl ⊢
  have hl : lv_has ls 4 [(0, .ref h0), (1, .int 103), (2, .int 2)] := hl
  obtain ⟨H, hH0⟩ : ∃ H, H = s.heap := ⟨_, rfl⟩
  rw [← hH0] at hP ⊢
  have hS : va_S A s.heap H [] := by rw [hH0]; exact hS
  refine lv_aload_n hx hb dX0_set_0 rfl (lv_at hl 0 rfl) ?_
  refine va_get (D := (dC, dI)) (ci := 1) (v := .ref a1) (C := RX0) (T := TX0) (N := 1) hx hb hts pinX0 hown hK hP 0 rfl rfl 0 (by decide) (hts _ e4) (fun _ h9 => h9) rfl dX0_set_1 ?_
  refine lv_iload_n hx hb dX0_set_4 rfl (lv_at hl 1 rfl) ?_
  refine lv_bipush (v := 8) hx hb dX0_set_5 (by decide) ?_
  refine lv_imul hx hb dX0_set_7 ?_
  refine W.eq (g2 := F0 m 8 ls [.int 824, .ref a1]) (by rfl) ?_
  refine lv_iload_n hx hb dX0_set_8 rfl (lv_at hl 2 rfl) ?_
  refine va_iast hx hb hK hP hD hS 1 0 rfl rfl (by unfold vp_in; decide) dX0_set_9 (fun H locs hP hD hS => ?_)
  obtain ⟨f1, ef1⟩ : ∃ f9, f9 = upd f (824 : Int32).toNatClampNeg 2 := ⟨_, rfl⟩
  rw [← ef1] at hP hD
  have hP : va_P (dC, dI) pcl [(h0, .inr (1, [.ref a1])), (a1, .inl (cB, 864, .inl f1))] H := hP
  have hD : va_D A [(h0, .inr (1, [.ref a1])), (a1, .inl (cB, 864, .inl f1))] := hD
  refine lv_iconst (v := 1) hx hb dX0_set_10 (by decide) ?_
  refine lv_istore_n (lv' := [(3, .int 1), (0, .ref h0), (1, .int 103), (2, .int 2)]) hx hb dX0_set_11 rfl hl (by decide) rfl (fun ls hl => ?_)
  refine lv_iload_n hx hb dX0_set_12 rfl (lv_at hl 0 rfl) ?_
  refine lv_bipush (v := 8) hx hb dX0_set_13 (by decide) ?_
  refine lv_icmp_ge (tgt := 44) hx hb dX0_set_15 (by decide) (fun h9 => absurd h9 (by decide)) (fun _ => ?_)
  refine lv_aload_n hx hb dX0_set_18 rfl (lv_at hl 1 rfl) ?_
  refine va_get (D := (dC, dI)) (ci := 1) (v := .ref a1) (C := RX0) (T := TX0) (N := 1) hx hb hts pinX0 hown hK hP 0 rfl rfl 0 (by decide) (hts _ e4) (fun _ h9 => h9) rfl dX0_set_19 ?_
  refine lv_iload_n hx hb dX0_set_22 rfl (lv_at hl 2 rfl) ?_
  refine lv_bipush (v := 8) hx hb dX0_set_23 (by decide) ?_
  refine lv_imul hx hb dX0_set_25 ?_
  refine W.eq (g2 := F0 m 26 ls [.int 824, .ref a1]) (by rfl) ?_
  refine lv_iload_n hx hb dX0_set_26 rfl (lv_at hl 0 rfl) ?_
  refine lv_iadd hx hb dX0_set_27 ?_
  refine W.eq (g2 := F0 m 28 ls [.int 825, .ref a1]) (by rfl) ?_
  refine lv_iload_n hx hb dX0_set_28 rfl (lv_at hl 3 rfl) ?_
  refine lv_if_ge (tgt := 36) hx hb dX0_set_29 (by decide) (fun _ => ?_) (fun h9 => absurd (by decide) h9)
  refine lv_iconst (v := 0) hx hb dX0_set_36 (by decide) ?_
  refine va_iast hx hb hK hP hD hS 1 0 rfl rfl (by unfold vp_in; decide) dX0_set_37 (fun H locs hP hD hS => ?_)
  obtain ⟨f2, ef2⟩ : ∃ f9, f9 = upd f1 (825 : Int32).toNatClampNeg 0 := ⟨_, rfl⟩
  rw [← ef2] at hP hD
  have hP : va_P (dC, dI) pcl [(h0, .inr (1, [.ref a1])), (a1, .inl (cB, 864, .inl f2))] H := hP
  have hD : va_D A [(h0, .inr (1, [.ref a1])), (a1, .inl (cB, 864, .inl f2))] := hD
  refine lv_iinc (v := 2) (lv' := [(3, .int 2), (0, .ref h0), (1, .int 103), (2, .int 2)]) hx hb dX0_set_38 hl (k := 0) rfl (by decide) (by decide) rfl (fun ls hl => ?_)
  refine lv_goto (tgt := 12) hx hb dX0_set_41 (by decide) ?_
  refine lv_iload_n hx hb dX0_set_12 rfl (lv_at hl 0 rfl) ?_
  refine lv_bipush (v := 8) hx hb dX0_set_13 (by decide) ?_
  refine lv_icmp_ge (tgt := 44) hx hb dX0_set_15 (by decide) (fun h9 => absurd h9 (by decide)) (fun _ => ?_)
  refine lv_aload_n hx hb dX0_set_18 rfl (lv_at hl 1 rfl) ?_
  refine va_get (D := (dC, dI)) (ci := 1) (v := .ref a1) (C := RX0) (T := TX0) (N := 1) hx hb hts pinX0 hown hK hP 0 rfl rfl 0 (by decide) (hts _ e4) (fun _ h9 => h9) rfl dX0_set_19 ?_
  refine lv_iload_n hx hb dX0_set_22 rfl (lv_at hl 2 rfl) ?_
  refine lv_bipush (v := 8) hx hb dX0_set_23 (by decide) ?_
  refine lv_imul hx hb dX0_set_25 ?_
  refine W.eq (g2 := F0 m 26 ls [.int 824, .ref a1]) (by rfl) ?_
  refine lv_iload_n hx hb dX0_set_26 rfl (lv_at hl 0 rfl) ?_
  refine lv_iadd hx hb dX0_set_27 ?_
  refine W.eq (g2 := F0 m 28 ls [.int 826, .ref a1]) (by rfl) ?_
  refine lv_iload_n hx hb dX0_set_28 rfl (lv_at hl 3 rfl) ?_
  refine lv_if_ge (tgt := 36) hx hb dX0_set_29 (by decide) (fun _ => ?_) (fun h9 => absurd (by decide) h9)
  refine lv_iconst (v := 0) hx hb dX0_set_36 (by decide) ?_
  refine va_iast hx hb hK hP hD hS 1 0 rfl rfl (by unfold vp_in; decide) dX0_set_37 (fun H locs hP hD hS => ?_)
  obtain ⟨f3, ef3⟩ : ∃ f9, f9 = upd f2 (826 : Int32).toNatClampNeg 0 := ⟨_, rfl⟩
  rw [← ef3] at hP hD
  have hP : va_P (dC, dI) pcl [(h0, .inr (1, [.ref a1])), (a1, .inl (cB, 864, .inl f3))] H := hP
  have hD : va_D A [(h0, .inr (1, [.ref a1])), (a1, .inl (cB, 864, .inl f3))] := hD
  refine lv_iinc (v := 3) (lv' := [(3, .int 3), (0, .ref h0), (1, .int 103), (2, .int 2)]) hx hb dX0_set_38 hl (k := 0) rfl (by decide) (by decide) rfl (fun ls hl => ?_)
  refine lv_goto (tgt := 12) hx hb dX0_set_41 (by decide) ?_
  refine lv_iload_n hx hb dX0_set_12 rfl (lv_at hl 0 rfl) ?_
  refine lv_bipush (v := 8) hx hb dX0_set_13 (by decide) ?_
  refine lv_icmp_ge (tgt := 44) hx hb dX0_set_15 (by decide) (fun h9 => absurd h9 (by decide)) (fun _ => ?_)
  refine lv_aload_n hx hb dX0_set_18 rfl (lv_at hl 1 rfl) ?_
  refine va_get (D := (dC, dI)) (ci := 1) (v := .ref a1) (C := RX0) (T := TX0) (N := 1) hx hb hts pinX0 hown hK hP 0 rfl rfl 0 (by decide) (hts _ e4) (fun _ h9 => h9) rfl dX0_set_19 ?_
  refine lv_iload_n hx hb dX0_set_22 rfl (lv_at hl 2 rfl) ?_
  refine lv_bipush (v := 8) hx hb dX0_set_23 (by decide) ?_
  refine lv_imul hx hb dX0_set_25 ?_
  refine W.eq (g2 := F0 m 26 ls [.int 824, .ref a1]) (by rfl) ?_
  refine lv_iload_n hx hb dX0_set_26 rfl (lv_at hl 0 rfl) ?_
  refine lv_iadd hx hb dX0_set_27 ?_
  refine W.eq (g2 := F0 m 28 ls [.int 827, .ref a1]) (by rfl) ?_
  refine lv_iload_n hx hb dX0_set_28 rfl (lv_at hl 3 rfl) ?_
  refine lv_if_ge (tgt := 36) hx hb dX0_set_29 (by decide) (fun _ => ?_) (fun h9 => absurd (by decide) h9)
  refine lv_iconst (v := 0) hx hb dX0_set_36 (by decide) ?_
  refine va_iast hx hb hK hP hD hS 1 0 rfl rfl (by unfold vp_in; decide) dX0_set_37 (fun H locs hP hD hS => ?_)
  obtain ⟨f4, ef4⟩ : ∃ f9, f9 = upd f3 (827 : Int32).toNatClampNeg 0 := ⟨_, rfl⟩
  rw [← ef4] at hP hD
  have hP : va_P (dC, dI) pcl [(h0, .inr (1, [.ref a1])), (a1, .inl (cB, 864, .inl f4))] H := hP
  have hD : va_D A [(h0, .inr (1, [.ref a1])), (a1, .inl (cB, 864, .inl f4))] := hD
  refine lv_iinc (v := 4) (lv' := [(3, .int 4), (0, .ref h0), (1, .int 103), (2, .int 2)]) hx hb dX0_set_38 hl (k := 0) rfl (by decide) (by decide) rfl (fun ls hl => ?_)
  refine lv_goto (tgt := 12) hx hb dX0_set_41 (by decide) ?_
  refine lv_iload_n hx hb dX0_set_12 rfl (lv_at hl 0 rfl) ?_
  refine lv_bipush (v := 8) hx hb dX0_set_13 (by decide) ?_
  refine lv_icmp_ge (tgt := 44) hx hb dX0_set_15 (by decide) (fun h9 => absurd h9 (by decide)) (fun _ => ?_)
  refine lv_aload_n hx hb dX0_set_18 rfl (lv_at hl 1 rfl) ?_
  refine va_get (D := (dC, dI)) (ci := 1) (v := .ref a1) (C := RX0) (T := TX0) (N := 1) hx hb hts pinX0 hown hK hP 0 rfl rfl 0 (by decide) (hts _ e4) (fun _ h9 => h9) rfl dX0_set_19 ?_
  refine lv_iload_n hx hb dX0_set_22 rfl (lv_at hl 2 rfl) ?_
  refine lv_bipush (v := 8) hx hb dX0_set_23 (by decide) ?_
  refine lv_imul hx hb dX0_set_25 ?_
  refine W.eq (g2 := F0 m 26 ls [.int 824, .ref a1]) (by rfl) ?_
  refine lv_iload_n hx hb dX0_set_26 rfl (lv_at hl 0 rfl) ?_
  refine lv_iadd hx hb dX0_set_27 ?_
  refine W.eq (g2 := F0 m 28 ls [.int 828, .ref a1]) (by rfl) ?_
  refine lv_iload_n hx hb dX0_set_28 rfl (lv_at hl 3 rfl) ?_
  refine lv_if_ge (tgt := 36) hx hb dX0_set_29 (by decide) (fun _ => ?_) (fun h9 => absurd (by decide) h9)
  refine lv_iconst (v := 0) hx hb dX0_set_36 (by decide) ?_
  refine va_iast hx hb hK hP hD hS 1 0 rfl rfl (by unfold vp_in; decide) dX0_set_37 (fun H locs hP hD hS => ?_)
  obtain ⟨f5, ef5⟩ : ∃ f9, f9 = upd f4 (828 : Int32).toNatClampNeg 0 := ⟨_, rfl⟩
  rw [← ef5] at hP hD
  have hP : va_P (dC, dI) pcl [(h0, .inr (1, [.ref a1])), (a1, .inl (cB, 864, .inl f5))] H := hP
  have hD : va_D A [(h0, .inr (1, [.ref a1])), (a1, .inl (cB, 864, .inl f5))] := hD
  refine lv_iinc (v := 5) (lv' := [(3, .int 5), (0, .ref h0), (1, .int 103), (2, .int 2)]) hx hb dX0_set_38 hl (k := 0) rfl (by decide) (by decide) rfl (fun ls hl => ?_)
  refine lv_goto (tgt := 12) hx hb dX0_set_41 (by decide) ?_
  refine lv_iload_n hx hb dX0_set_12 rfl (lv_at hl 0 rfl) ?_
  refine lv_bipush (v := 8) hx hb dX0_set_13 (by decide) ?_
  refine lv_icmp_ge (tgt := 44) hx hb dX0_set_15 (by decide) (fun h9 => absurd h9 (by decide)) (fun _ => ?_)
  refine lv_aload_n hx hb dX0_set_18 rfl (lv_at hl 1 rfl) ?_
  refine va_get (D := (dC, dI)) (ci := 1) (v := .ref a1) (C := RX0) (T := TX0) (N := 1) hx hb hts pinX0 hown hK hP 0 rfl rfl 0 (by decide) (hts _ e4) (fun _ h9 => h9) rfl dX0_set_19 ?_
  refine lv_iload_n hx hb dX0_set_22 rfl (lv_at hl 2 rfl) ?_
  refine lv_bipush (v := 8) hx hb dX0_set_23 (by decide) ?_
  refine lv_imul hx hb dX0_set_25 ?_
  refine W.eq (g2 := F0 m 26 ls [.int 824, .ref a1]) (by rfl) ?_
  refine lv_iload_n hx hb dX0_set_26 rfl (lv_at hl 0 rfl) ?_
  refine lv_iadd hx hb dX0_set_27 ?_
  refine W.eq (g2 := F0 m 28 ls [.int 829, .ref a1]) (by rfl) ?_
  refine lv_iload_n hx hb dX0_set_28 rfl (lv_at hl 3 rfl) ?_
  refine lv_if_ge (tgt := 36) hx hb dX0_set_29 (by decide) (fun _ => ?_) (fun h9 => absurd (by decide) h9)
  refine lv_iconst (v := 0) hx hb dX0_set_36 (by decide) ?_
  refine va_iast hx hb hK hP hD hS 1 0 rfl rfl (by unfold vp_in; decide) dX0_set_37 (fun H locs hP hD hS => ?_)
  obtain ⟨f6, ef6⟩ : ∃ f9, f9 = upd f5 (829 : Int32).toNatClampNeg 0 := ⟨_, rfl⟩
  rw [← ef6] at hP hD
  have hP : va_P (dC, dI) pcl [(h0, .inr (1, [.ref a1])), (a1, .inl (cB, 864, .inl f6))] H := hP
  have hD : va_D A [(h0, .inr (1, [.ref a1])), (a1, .inl (cB, 864, .inl f6))] := hD
  refine lv_iinc (v := 6) (lv' := [(3, .int 6), (0, .ref h0), (1, .int 103), (2, .int 2)]) hx hb dX0_set_38 hl (k := 0) rfl (by decide) (by decide) rfl (fun ls hl => ?_)
  refine lv_goto (tgt := 12) hx hb dX0_set_41 (by decide) ?_
  refine lv_iload_n hx hb dX0_set_12 rfl (lv_at hl 0 rfl) ?_
  refine lv_bipush (v := 8) hx hb dX0_set_13 (by decide) ?_
  refine lv_icmp_ge (tgt := 44) hx hb dX0_set_15 (by decide) (fun h9 => absurd h9 (by decide)) (fun _ => ?_)
  refine lv_aload_n hx hb dX0_set_18 rfl (lv_at hl 1 rfl) ?_
  refine va_get (D := (dC, dI)) (ci := 1) (v := .ref a1) (C := RX0) (T := TX0) (N := 1) hx hb hts pinX0 hown hK hP 0 rfl rfl 0 (by decide) (hts _ e4) (fun _ h9 => h9) rfl dX0_set_19 ?_
  refine lv_iload_n hx hb dX0_set_22 rfl (lv_at hl 2 rfl) ?_
  refine lv_bipush (v := 8) hx hb dX0_set_23 (by decide) ?_
  refine lv_imul hx hb dX0_set_25 ?_
  refine W.eq (g2 := F0 m 26 ls [.int 824, .ref a1]) (by rfl) ?_
  refine lv_iload_n hx hb dX0_set_26 rfl (lv_at hl 0 rfl) ?_
  refine lv_iadd hx hb dX0_set_27 ?_
  refine W.eq (g2 := F0 m 28 ls [.int 830, .ref a1]) (by rfl) ?_
  refine lv_iload_n hx hb dX0_set_28 rfl (lv_at hl 3 rfl) ?_
  refine lv_if_ge (tgt := 36) hx hb dX0_set_29 (by decide) (fun _ => ?_) (fun h9 => absurd (by decide) h9)
  refine lv_iconst (v := 0) hx hb dX0_set_36 (by decide) ?_
  refine va_iast hx hb hK hP hD hS 1 0 rfl rfl (by unfold vp_in; decide) dX0_set_37 (fun H locs hP hD hS => ?_)
  obtain ⟨f7, ef7⟩ : ∃ f9, f9 = upd f6 (830 : Int32).toNatClampNeg 0 := ⟨_, rfl⟩
  rw [← ef7] at hP hD
  have hP : va_P (dC, dI) pcl [(h0, .inr (1, [.ref a1])), (a1, .inl (cB, 864, .inl f7))] H := hP
  have hD : va_D A [(h0, .inr (1, [.ref a1])), (a1, .inl (cB, 864, .inl f7))] := hD
  refine lv_iinc (v := 7) (lv' := [(3, .int 7), (0, .ref h0), (1, .int 103), (2, .int 2)]) hx hb dX0_set_38 hl (k := 0) rfl (by decide) (by decide) rfl (fun ls hl => ?_)
  refine lv_goto (tgt := 12) hx hb dX0_set_41 (by decide) ?_
  refine lv_iload_n hx hb dX0_set_12 rfl (lv_at hl 0 rfl) ?_
  refine lv_bipush (v := 8) hx hb dX0_set_13 (by decide) ?_
  refine lv_icmp_ge (tgt := 44) hx hb dX0_set_15 (by decide) (fun h9 => absurd h9 (by decide)) (fun _ => ?_)
  refine lv_aload_n hx hb dX0_set_18 rfl (lv_at hl 1 rfl) ?_
  refine va_get (D := (dC, dI)) (ci := 1) (v := .ref a1) (C := RX0) (T := TX0) (N := 1) hx hb hts pinX0 hown hK hP 0 rfl rfl 0 (by decide) (hts _ e4) (fun _ h9 => h9) rfl dX0_set_19 ?_
  refine lv_iload_n hx hb dX0_set_22 rfl (lv_at hl 2 rfl) ?_
  refine lv_bipush (v := 8) hx hb dX0_set_23 (by decide) ?_
  refine lv_imul hx hb dX0_set_25 ?_
  refine W.eq (g2 := F0 m 26 ls [.int 824, .ref a1]) (by rfl) ?_
  refine lv_iload_n hx hb dX0_set_26 rfl (lv_at hl 0 rfl) ?_
  refine lv_iadd hx hb dX0_set_27 ?_
  refine W.eq (g2 := F0 m 28 ls [.int 831, .ref a1]) (by rfl) ?_
  refine lv_iload_n hx hb dX0_set_28 rfl (lv_at hl 3 rfl) ?_
  refine lv_if_ge (tgt := 36) hx hb dX0_set_29 (by decide) (fun _ => ?_) (fun h9 => absurd (by decide) h9)
  refine lv_iconst (v := 0) hx hb dX0_set_36 (by decide) ?_
  refine va_iast hx hb hK hP hD hS 1 0 rfl rfl (by unfold vp_in; decide) dX0_set_37 (fun H locs hP hD hS => ?_)
  obtain ⟨f8, ef8⟩ : ∃ f9, f9 = upd f7 (831 : Int32).toNatClampNeg 0 := ⟨_, rfl⟩
  rw [← ef8] at hP hD
  have hP : va_P (dC, dI) pcl [(h0, .inr (1, [.ref a1])), (a1, .inl (cB, 864, .inl f8))] H := hP
  have hD : va_D A [(h0, .inr (1, [.ref a1])), (a1, .inl (cB, 864, .inl f8))] := hD
  refine lv_iinc (v := 8) (lv' := [(3, .int 8), (0, .ref h0), (1, .int 103), (2, .int 2)]) hx hb dX0_set_38 hl (k := 0) rfl (by decide) (by decide) rfl (fun ls hl => ?_)
  refine lv_goto (tgt := 12) hx hb dX0_set_41 (by decide) ?_
  refine lv_iload_n hx hb dX0_set_12 rfl (lv_at hl 0 rfl) ?_
  refine lv_bipush (v := 8) hx hb dX0_set_13 (by decide) ?_
  refine lv_icmp_ge (tgt := 44) hx hb dX0_set_15 (by decide) (fun _ => ?_) (fun h9 => absurd (by decide) h9)
  have hP9 := hP.sub (ws' := [(h0, .inr (1, [.ref a1])), (a1, .inl (cB, 864, .inl f8))]) [0, 1] rfl
  have hD9 := hD.sub (ws' := [(h0, .inr (1, [.ref a1])), (a1, .inl (cB, 864, .inl f8))]) [0, 1] (by decide) rfl
  have hK9 := hK.sub (tys' := [(cB, .int)]) [0] rfl
  refine W.widen (k := 0) (n := 0) (Nat.le_of_ble_eq_true rfl) (Nat.le_of_ble_eq_true rfl) ?_
  exact W.vret hx hb hr (fun t ht hW => ⟨⟨(), rfl, trivial, f8, by rw [ht]; exact hP9, va_K.moved hW.alike hK9, hD9⟩, hS.F ht⟩) hS.2.2 dX0_set_44
set_option maxHeartbeats 4000000 in
set_option maxRecDepth 100000 in
theorem c_X0_set3 (l : Launch) (dC : Nat → ClassId) (dI : Nat → Nat → Nat) (z : pG) (h0 : Nat) (a1 : Nat) (cB : ClassId) (f : Nat → Int32) (sz : Nat) : Met l yX0_set (ws_ yX0_set cX0_set 4 none) ({ frames := 0, cells := 0, slots := 0, locals := 0 }) (va_Pc [.ref h0, .int 104, .int 3] (pPre z dC dI [(h0, .inr (1, [.ref a1])), (a1, .inl (cB, 864, .inl f))] [(cB, .int)] sz)) (va_Qv (fun (_ : Unit) => True) (fun _ t => ∃ (f2 : Nat → Int32), pPost dC dI (va_A [(h0, .inr (1, [.ref a1])), (a1, .inl (cB, 864, .inl f))] sz) [(h0, .inr (1, [.ref a1])), (a1, .inl (cB, 864, .inl f2))] [(cB, .int)] t) (va_A [(h0, .inr (1, [.ref a1])), (a1, .inl (cB, 864, .inl f))] sz)) 0 0 (va_A [(h0, .inr (1, [.ref a1])), (a1, .inl (cB, 864, .inl f))] sz) := by
  refine Met.ofW (cc := cX0_set) (maxL := 4) (ret := none) (by decide) rfl ?_
  intro p e s m args below meth c s₁ B hml hv
  obtain ⟨rfl, hsz, hP, hK, hD0, hE⟩ := hv
  have hx := B.exec
  have hb := B.bytes
  have hr := B.returns
  have hts0 := atoms_spec (ws := ws_ yX0_set cX0_set 4 none) B.pre
  have hts := fun (w : Cond) (h : w ∈ pw) => hts0 w (List.mem_cons_of_mem _ h)
  have hown : s.vm.findClass RX0 = some m.cls := findClass_of_methodNamed B.named
  have hlocks := B.notSynchronized
  subst hsz
  have hD := hD0.self (sz := s.heap.size)
  generalize hAe : va_A [(h0, .inr (1, [.ref a1])), (a1, .inl (cB, 864, .inl f))] s.heap.size = A at hD hE ⊢
  have hA : ∀ q : Nat, s.heap.size ≤ q → A q := fun q h => by rw [← hAe]; exact Or.inr h
  have hS : va_S A s.heap s.heap [] := va_S.rf
  have hN := hE.1
  have hP : va_P (dC, dI) pcl [(h0, .inr (1, [.ref a1])), (a1, .inl (cB, 864, .inl f))] s.heap := hP
  have hl := lv_entry ([.ref h0, .int 104, .int 3]) (n := 4) (Nat.le_of_ble_eq_true rfl)
  rw [lg_entry_eq]
  generalize (lg_sl ([.ref h0, .int 104, .int 3]) ++ List.replicate (4 - (lg_sl ([.ref h0, .int 104, .int 3])).length) Slot.unset).toArray = ls at hl ⊢
  have hl : lv_has ls 4 [(0, .ref h0), (1, .int 104), (2, .int 3)] := hl
  obtain ⟨H, hH0⟩ : ∃ H, H = s.heap := ⟨_, rfl⟩
  rw [← hH0] at hP ⊢
  have hS : va_S A s.heap H [] := by rw [hH0]; exact hS
  refine lv_aload_n hx hb dX0_set_0 rfl (lv_at hl 0 rfl) ?_
  refine va_get (D := (dC, dI)) (ci := 1) (v := .ref a1) (C := RX0) (T := TX0) (N := 1) hx hb hts pinX0 hown hK hP 0 rfl rfl 0 (by decide) (hts _ e4) (fun _ h9 => h9) rfl dX0_set_1 ?_
  refine lv_iload_n hx hb dX0_set_4 rfl (lv_at hl 1 rfl) ?_
  refine lv_bipush (v := 8) hx hb dX0_set_5 (by decide) ?_
  refine lv_imul hx hb dX0_set_7 ?_
  refine W.eq (g2 := F0 m 8 ls [.int 832, .ref a1]) (by rfl) ?_
  refine lv_iload_n hx hb dX0_set_8 rfl (lv_at hl 2 rfl) ?_
  refine va_iast hx hb hK hP hD hS 1 0 rfl rfl (by unfold vp_in; decide) dX0_set_9 (fun H locs hP hD hS => ?_)
  obtain ⟨f1, ef1⟩ : ∃ f9, f9 = upd f (832 : Int32).toNatClampNeg 3 := ⟨_, rfl⟩
  rw [← ef1] at hP hD
  have hP : va_P (dC, dI) pcl [(h0, .inr (1, [.ref a1])), (a1, .inl (cB, 864, .inl f1))] H := hP
  have hD : va_D A [(h0, .inr (1, [.ref a1])), (a1, .inl (cB, 864, .inl f1))] := hD
  refine lv_iconst (v := 1) hx hb dX0_set_10 (by decide) ?_
  refine lv_istore_n (lv' := [(3, .int 1), (0, .ref h0), (1, .int 104), (2, .int 3)]) hx hb dX0_set_11 rfl hl (by decide) rfl (fun ls hl => ?_)
  refine lv_iload_n hx hb dX0_set_12 rfl (lv_at hl 0 rfl) ?_
  refine lv_bipush (v := 8) hx hb dX0_set_13 (by decide) ?_
  refine lv_icmp_ge (tgt := 44) hx hb dX0_set_15 (by decide) (fun h9 => absurd h9 (by decide)) (fun _ => ?_)
  refine lv_aload_n hx hb dX0_set_18 rfl (lv_at hl 1 rfl) ?_
  refine va_get (D := (dC, dI)) (ci := 1) (v := .ref a1) (C := RX0) (T := TX0) (N := 1) hx hb hts pinX0 hown hK hP 0 rfl rfl 0 (by decide) (hts _ e4) (fun _ h9 => h9) rfl dX0_set_19 ?_
  refine lv_iload_n hx hb dX0_set_22 rfl (lv_at hl 2 rfl) ?_
  refine lv_bipush (v := 8) hx hb dX0_set_23 (by decide) ?_
  refine lv_imul hx hb dX0_set_25 ?_
  refine W.eq (g2 := F0 m 26 ls [.int 832, .ref a1]) (by rfl) ?_
  refine lv_iload_n hx hb dX0_set_26 rfl (lv_at hl 0 rfl) ?_
  refine lv_iadd hx hb dX0_set_27 ?_
  refine W.eq (g2 := F0 m 28 ls [.int 833, .ref a1]) (by rfl) ?_
  refine lv_iload_n hx hb dX0_set_28 rfl (lv_at hl 3 rfl) ?_
  refine lv_if_ge (tgt := 36) hx hb dX0_set_29 (by decide) (fun _ => ?_) (fun h9 => absurd (by decide) h9)
  refine lv_iconst (v := 0) hx hb dX0_set_36 (by decide) ?_
  refine va_iast hx hb hK hP hD hS 1 0 rfl rfl (by unfold vp_in; decide) dX0_set_37 (fun H locs hP hD hS => ?_)
  obtain ⟨f2, ef2⟩ : ∃ f9, f9 = upd f1 (833 : Int32).toNatClampNeg 0 := ⟨_, rfl⟩
  rw [← ef2] at hP hD
  have hP : va_P (dC, dI) pcl [(h0, .inr (1, [.ref a1])), (a1, .inl (cB, 864, .inl f2))] H := hP
  have hD : va_D A [(h0, .inr (1, [.ref a1])), (a1, .inl (cB, 864, .inl f2))] := hD
  refine lv_iinc (v := 2) (lv' := [(3, .int 2), (0, .ref h0), (1, .int 104), (2, .int 3)]) hx hb dX0_set_38 hl (k := 0) rfl (by decide) (by decide) rfl (fun ls hl => ?_)
  refine lv_goto (tgt := 12) hx hb dX0_set_41 (by decide) ?_
  refine lv_iload_n hx hb dX0_set_12 rfl (lv_at hl 0 rfl) ?_
  refine lv_bipush (v := 8) hx hb dX0_set_13 (by decide) ?_
  refine lv_icmp_ge (tgt := 44) hx hb dX0_set_15 (by decide) (fun h9 => absurd h9 (by decide)) (fun _ => ?_)
  refine lv_aload_n hx hb dX0_set_18 rfl (lv_at hl 1 rfl) ?_
  refine va_get (D := (dC, dI)) (ci := 1) (v := .ref a1) (C := RX0) (T := TX0) (N := 1) hx hb hts pinX0 hown hK hP 0 rfl rfl 0 (by decide) (hts _ e4) (fun _ h9 => h9) rfl dX0_set_19 ?_
  refine lv_iload_n hx hb dX0_set_22 rfl (lv_at hl 2 rfl) ?_
  refine lv_bipush (v := 8) hx hb dX0_set_23 (by decide) ?_
  refine lv_imul hx hb dX0_set_25 ?_
  refine W.eq (g2 := F0 m 26 ls [.int 832, .ref a1]) (by rfl) ?_
  refine lv_iload_n hx hb dX0_set_26 rfl (lv_at hl 0 rfl) ?_
  refine lv_iadd hx hb dX0_set_27 ?_
  refine W.eq (g2 := F0 m 28 ls [.int 834, .ref a1]) (by rfl) ?_
  refine lv_iload_n hx hb dX0_set_28 rfl (lv_at hl 3 rfl) ?_
  refine lv_if_ge (tgt := 36) hx hb dX0_set_29 (by decide) (fun _ => ?_) (fun h9 => absurd (by decide) h9)
  refine lv_iconst (v := 0) hx hb dX0_set_36 (by decide) ?_
  refine va_iast hx hb hK hP hD hS 1 0 rfl rfl (by unfold vp_in; decide) dX0_set_37 (fun H locs hP hD hS => ?_)
  obtain ⟨f3, ef3⟩ : ∃ f9, f9 = upd f2 (834 : Int32).toNatClampNeg 0 := ⟨_, rfl⟩
  rw [← ef3] at hP hD
  have hP : va_P (dC, dI) pcl [(h0, .inr (1, [.ref a1])), (a1, .inl (cB, 864, .inl f3))] H := hP
  have hD : va_D A [(h0, .inr (1, [.ref a1])), (a1, .inl (cB, 864, .inl f3))] := hD
  refine lv_iinc (v := 3) (lv' := [(3, .int 3), (0, .ref h0), (1, .int 104), (2, .int 3)]) hx hb dX0_set_38 hl (k := 0) rfl (by decide) (by decide) rfl (fun ls hl => ?_)
  refine lv_goto (tgt := 12) hx hb dX0_set_41 (by decide) ?_
  refine lv_iload_n hx hb dX0_set_12 rfl (lv_at hl 0 rfl) ?_
  refine lv_bipush (v := 8) hx hb dX0_set_13 (by decide) ?_
  refine lv_icmp_ge (tgt := 44) hx hb dX0_set_15 (by decide) (fun h9 => absurd h9 (by decide)) (fun _ => ?_)
  refine lv_aload_n hx hb dX0_set_18 rfl (lv_at hl 1 rfl) ?_
  refine va_get (D := (dC, dI)) (ci := 1) (v := .ref a1) (C := RX0) (T := TX0) (N := 1) hx hb hts pinX0 hown hK hP 0 rfl rfl 0 (by decide) (hts _ e4) (fun _ h9 => h9) rfl dX0_set_19 ?_
  refine lv_iload_n hx hb dX0_set_22 rfl (lv_at hl 2 rfl) ?_
  refine lv_bipush (v := 8) hx hb dX0_set_23 (by decide) ?_
  refine lv_imul hx hb dX0_set_25 ?_
  refine W.eq (g2 := F0 m 26 ls [.int 832, .ref a1]) (by rfl) ?_
  refine lv_iload_n hx hb dX0_set_26 rfl (lv_at hl 0 rfl) ?_
  refine lv_iadd hx hb dX0_set_27 ?_
  refine W.eq (g2 := F0 m 28 ls [.int 835, .ref a1]) (by rfl) ?_
  refine lv_iload_n hx hb dX0_set_28 rfl (lv_at hl 3 rfl) ?_
  refine lv_if_ge (tgt := 36) hx hb dX0_set_29 (by decide) (fun _ => ?_) (fun h9 => absurd (by decide) h9)
  refine lv_iconst (v := 0) hx hb dX0_set_36 (by decide) ?_
  refine va_iast hx hb hK hP hD hS 1 0 rfl rfl (by unfold vp_in; decide) dX0_set_37 (fun H locs hP hD hS => ?_)
  obtain ⟨f4, ef4⟩ : ∃ f9, f9 = upd f3 (835 : Int32).toNatClampNeg 0 := ⟨_, rfl⟩
  rw [← ef4] at hP hD
  have hP : va_P (dC, dI) pcl [(h0, .inr (1, [.ref a1])), (a1, .inl (cB, 864, .inl f4))] H := hP
  have hD : va_D A [(h0, .inr (1, [.ref a1])), (a1, .inl (cB, 864, .inl f4))] := hD
  refine lv_iinc (v := 4) (lv' := [(3, .int 4), (0, .ref h0), (1, .int 104), (2, .int 3)]) hx hb dX0_set_38 hl (k := 0) rfl (by decide) (by decide) rfl (fun ls hl => ?_)
  refine lv_goto (tgt := 12) hx hb dX0_set_41 (by decide) ?_
  refine lv_iload_n hx hb dX0_set_12 rfl (lv_at hl 0 rfl) ?_
  refine lv_bipush (v := 8) hx hb dX0_set_13 (by decide) ?_
  refine lv_icmp_ge (tgt := 44) hx hb dX0_set_15 (by decide) (fun h9 => absurd h9 (by decide)) (fun _ => ?_)
  refine lv_aload_n hx hb dX0_set_18 rfl (lv_at hl 1 rfl) ?_
  refine va_get (D := (dC, dI)) (ci := 1) (v := .ref a1) (C := RX0) (T := TX0) (N := 1) hx hb hts pinX0 hown hK hP 0 rfl rfl 0 (by decide) (hts _ e4) (fun _ h9 => h9) rfl dX0_set_19 ?_
  refine lv_iload_n hx hb dX0_set_22 rfl (lv_at hl 2 rfl) ?_
  refine lv_bipush (v := 8) hx hb dX0_set_23 (by decide) ?_
  refine lv_imul hx hb dX0_set_25 ?_
  refine W.eq (g2 := F0 m 26 ls [.int 832, .ref a1]) (by rfl) ?_
  refine lv_iload_n hx hb dX0_set_26 rfl (lv_at hl 0 rfl) ?_
  refine lv_iadd hx hb dX0_set_27 ?_
  refine W.eq (g2 := F0 m 28 ls [.int 836, .ref a1]) (by rfl) ?_
  refine lv_iload_n hx hb dX0_set_28 rfl (lv_at hl 3 rfl) ?_
  refine lv_if_ge (tgt := 36) hx hb dX0_set_29 (by decide) (fun _ => ?_) (fun h9 => absurd (by decide) h9)
  refine lv_iconst (v := 0) hx hb dX0_set_36 (by decide) ?_
  refine va_iast hx hb hK hP hD hS 1 0 rfl rfl (by unfold vp_in; decide) dX0_set_37 (fun H locs hP hD hS => ?_)
  obtain ⟨f5, ef5⟩ : ∃ f9, f9 = upd f4 (836 : Int32).toNatClampNeg 0 := ⟨_, rfl⟩
  rw [← ef5] at hP hD
  have hP : va_P (dC, dI) pcl [(h0, .inr (1, [.ref a1])), (a1, .inl (cB, 864, .inl f5))] H := hP
  have hD : va_D A [(h0, .inr (1, [.ref a1])), (a1, .inl (cB, 864, .inl f5))] := hD
  refine lv_iinc (v := 5) (lv' := [(3, .int 5), (0, .ref h0), (1, .int 104), (2, .int 3)]) hx hb dX0_set_38 hl (k := 0) rfl (by decide) (by decide) rfl (fun ls hl => ?_)
  refine lv_goto (tgt := 12) hx hb dX0_set_41 (by decide) ?_
  refine lv_iload_n hx hb dX0_set_12 rfl (lv_at hl 0 rfl) ?_
  refine lv_bipush (v := 8) hx hb dX0_set_13 (by decide) ?_
  refine lv_icmp_ge (tgt := 44) hx hb dX0_set_15 (by decide) (fun h9 => absurd h9 (by decide)) (fun _ => ?_)
  refine lv_aload_n hx hb dX0_set_18 rfl (lv_at hl 1 rfl) ?_
  refine va_get (D := (dC, dI)) (ci := 1) (v := .ref a1) (C := RX0) (T := TX0) (N := 1) hx hb hts pinX0 hown hK hP 0 rfl rfl 0 (by decide) (hts _ e4) (fun _ h9 => h9) rfl dX0_set_19 ?_
  refine lv_iload_n hx hb dX0_set_22 rfl (lv_at hl 2 rfl) ?_
  refine lv_bipush (v := 8) hx hb dX0_set_23 (by decide) ?_
  refine lv_imul hx hb dX0_set_25 ?_
  refine W.eq (g2 := F0 m 26 ls [.int 832, .ref a1]) (by rfl) ?_
  refine lv_iload_n hx hb dX0_set_26 rfl (lv_at hl 0 rfl) ?_
  refine lv_iadd hx hb dX0_set_27 ?_
  refine W.eq (g2 := F0 m 28 ls [.int 837, .ref a1]) (by rfl) ?_
  refine lv_iload_n hx hb dX0_set_28 rfl (lv_at hl 3 rfl) ?_
  refine lv_if_ge (tgt := 36) hx hb dX0_set_29 (by decide) (fun _ => ?_) (fun h9 => absurd (by decide) h9)
  refine lv_iconst (v := 0) hx hb dX0_set_36 (by decide) ?_
  refine va_iast hx hb hK hP hD hS 1 0 rfl rfl (by unfold vp_in; decide) dX0_set_37 (fun H locs hP hD hS => ?_)
  obtain ⟨f6, ef6⟩ : ∃ f9, f9 = upd f5 (837 : Int32).toNatClampNeg 0 := ⟨_, rfl⟩
  rw [← ef6] at hP hD
  have hP : va_P (dC, dI) pcl [(h0, .inr (1, [.ref a1])), (a1, .inl (cB, 864, .inl f6))] H := hP
  have hD : va_D A [(h0, .inr (1, [.ref a1])), (a1, .inl (cB, 864, .inl f6))] := hD
  refine lv_iinc (v := 6) (lv' := [(3, .int 6), (0, .ref h0), (1, .int 104), (2, .int 3)]) hx hb dX0_set_38 hl (k := 0) rfl (by decide) (by decide) rfl (fun ls hl => ?_)
  refine lv_goto (tgt := 12) hx hb dX0_set_41 (by decide) ?_
  refine lv_iload_n hx hb dX0_set_12 rfl (lv_at hl 0 rfl) ?_
  refine lv_bipush (v := 8) hx hb dX0_set_13 (by decide) ?_
  refine lv_icmp_ge (tgt := 44) hx hb dX0_set_15 (by decide) (fun h9 => absurd h9 (by decide)) (fun _ => ?_)
  refine lv_aload_n hx hb dX0_set_18 rfl (lv_at hl 1 rfl) ?_
  refine va_get (D := (dC, dI)) (ci := 1) (v := .ref a1) (C := RX0) (T := TX0) (N := 1) hx hb hts pinX0 hown hK hP 0 rfl rfl 0 (by decide) (hts _ e4) (fun _ h9 => h9) rfl dX0_set_19 ?_
  refine lv_iload_n hx hb dX0_set_22 rfl (lv_at hl 2 rfl) ?_
  refine lv_bipush (v := 8) hx hb dX0_set_23 (by decide) ?_
  refine lv_imul hx hb dX0_set_25 ?_
  refine W.eq (g2 := F0 m 26 ls [.int 832, .ref a1]) (by rfl) ?_
  refine lv_iload_n hx hb dX0_set_26 rfl (lv_at hl 0 rfl) ?_
  refine lv_iadd hx hb dX0_set_27 ?_
  refine W.eq (g2 := F0 m 28 ls [.int 838, .ref a1]) (by rfl) ?_
  refine lv_iload_n hx hb dX0_set_28 rfl (lv_at hl 3 rfl) ?_
  refine lv_if_ge (tgt := 36) hx hb dX0_set_29 (by decide) (fun _ => ?_) (fun h9 => absurd (by decide) h9)
  refine lv_iconst (v := 0) hx hb dX0_set_36 (by decide) ?_
  refine va_iast hx hb hK hP hD hS 1 0 rfl rfl (by unfold vp_in; decide) dX0_set_37 (fun H locs hP hD hS => ?_)
  obtain ⟨f7, ef7⟩ : ∃ f9, f9 = upd f6 (838 : Int32).toNatClampNeg 0 := ⟨_, rfl⟩
  rw [← ef7] at hP hD
  have hP : va_P (dC, dI) pcl [(h0, .inr (1, [.ref a1])), (a1, .inl (cB, 864, .inl f7))] H := hP
  have hD : va_D A [(h0, .inr (1, [.ref a1])), (a1, .inl (cB, 864, .inl f7))] := hD
  refine lv_iinc (v := 7) (lv' := [(3, .int 7), (0, .ref h0), (1, .int 104), (2, .int 3)]) hx hb dX0_set_38 hl (k := 0) rfl (by decide) (by decide) rfl (fun ls hl => ?_)
  refine lv_goto (tgt := 12) hx hb dX0_set_41 (by decide) ?_
  refine lv_iload_n hx hb dX0_set_12 rfl (lv_at hl 0 rfl) ?_
  refine lv_bipush (v := 8) hx hb dX0_set_13 (by decide) ?_
  refine lv_icmp_ge (tgt := 44) hx hb dX0_set_15 (by decide) (fun h9 => absurd h9 (by decide)) (fun _ => ?_)
  refine lv_aload_n hx hb dX0_set_18 rfl (lv_at hl 1 rfl) ?_
  refine va_get (D := (dC, dI)) (ci := 1) (v := .ref a1) (C := RX0) (T := TX0) (N := 1) hx hb hts pinX0 hown hK hP 0 rfl rfl 0 (by decide) (hts _ e4) (fun _ h9 => h9) rfl dX0_set_19 ?_
  refine lv_iload_n hx hb dX0_set_22 rfl (lv_at hl 2 rfl) ?_
  refine lv_bipush (v := 8) hx hb dX0_set_23 (by decide) ?_
  refine lv_imul hx hb dX0_set_25 ?_
  refine W.eq (g2 := F0 m 26 ls [.int 832, .ref a1]) (by rfl) ?_
  refine lv_iload_n hx hb dX0_set_26 rfl (lv_at hl 0 rfl) ?_
  refine lv_iadd hx hb dX0_set_27 ?_
  refine W.eq (g2 := F0 m 28 ls [.int 839, .ref a1]) (by rfl) ?_
  refine lv_iload_n hx hb dX0_set_28 rfl (lv_at hl 3 rfl) ?_
  refine lv_if_ge (tgt := 36) hx hb dX0_set_29 (by decide) (fun _ => ?_) (fun h9 => absurd (by decide) h9)
  refine lv_iconst (v := 0) hx hb dX0_set_36 (by decide) ?_
  refine va_iast hx hb hK hP hD hS 1 0 rfl rfl (by unfold vp_in; decide) dX0_set_37 (fun H locs hP hD hS => ?_)
  obtain ⟨f8, ef8⟩ : ∃ f9, f9 = upd f7 (839 : Int32).toNatClampNeg 0 := ⟨_, rfl⟩
  rw [← ef8] at hP hD
  have hP : va_P (dC, dI) pcl [(h0, .inr (1, [.ref a1])), (a1, .inl (cB, 864, .inl f8))] H := hP
  have hD : va_D A [(h0, .inr (1, [.ref a1])), (a1, .inl (cB, 864, .inl f8))] := hD
  refine lv_iinc (v := 8) (lv' := [(3, .int 8), (0, .ref h0), (1, .int 104), (2, .int 3)]) hx hb dX0_set_38 hl (k := 0) rfl (by decide) (by decide) rfl (fun ls hl => ?_)
  refine lv_goto (tgt := 12) hx hb dX0_set_41 (by decide) ?_
  refine lv_iload_n hx hb dX0_set_12 rfl (lv_at hl 0 rfl) ?_
  refine lv_bipush (v := 8) hx hb dX0_set_13 (by decide) ?_
  refine lv_icmp_ge (tgt := 44) hx hb dX0_set_15 (by decide) (fun _ => ?_) (fun h9 => absurd (by decide) h9)
  have hP9 := hP.sub (ws' := [(h0, .inr (1, [.ref a1])), (a1, .inl (cB, 864, .inl f8))]) [0, 1] rfl
  have hD9 := hD.sub (ws' := [(h0, .inr (1, [.ref a1])), (a1, .inl (cB, 864, .inl f8))]) [0, 1] (by decide) rfl
  have hK9 := hK.sub (tys' := [(cB, .int)]) [0] rfl
  refine W.widen (k := 0) (n := 0) (Nat.le_of_ble_eq_true rfl) (Nat.le_of_ble_eq_true rfl) ?_
  exact W.vret hx hb hr (fun t ht hW => ⟨⟨(), rfl, trivial, f8, by rw [ht]; exact hP9, va_K.moved hW.alike hK9, hD9⟩, hS.F ht⟩) hS.2.2 dX0_set_44
end
section
set_option maxHeartbeats 4000000 in
set_option maxRecDepth 100000 in
theorem c_X3_init (l : Launch) (dC : Nat → ClassId) (dI : Nat → Nat → Nat) (z : pG) (h0 : Nat) (d0 : Nat) (sz : Nat) : Met l yX3_init (ws_ yX3_init cX3_init 3 none) ({ frames := 2, cells := 5, slots := 977, locals := 32 }) (va_Pc [.ref h0, .ref d0] (pPre z dC dI [(h0, .inr (4, [.null, .null, .null, .null, .null, .int 0, .int 0, .int 0, .int 0]))] [] sz)) (va_Qv (fun (_ : Unit) => True) (fun _ t => ∃ (a1 : Nat) (a2 : Nat) (a3 : Nat) (a4 : Nat), pPost dC dI (va_A [(h0, .inr (4, [.null, .null, .null, .null, .null, .int 0, .int 0, .int 0, .int 0]))] sz) [(h0, .inr (4, [.ref d0, .ref a1, .ref a2, .ref a3, .ref a4, .int 0, .int 0, .int 0, .int 0]))] [] t) (va_A [(h0, .inr (4, [.null, .null, .null, .null, .null, .int 0, .int 0, .int 0, .int 0]))] sz)) 5 977 (va_A [(h0, .inr (4, [.null, .null, .null, .null, .null, .int 0, .int 0, .int 0, .int 0]))] sz) := by
  refine Met.ofW (cc := cX3_init) (maxL := 3) (ret := none) (by decide) rfl ?_
  intro p e s m args below meth c s₁ B hml hv
  obtain ⟨rfl, hsz, hP, hK, hD0, hE⟩ := hv
  have hx := B.exec
  have hb := B.bytes
  have hr := B.returns
  have hts0 := atoms_spec (ws := ws_ yX3_init cX3_init 3 none) B.pre
  have hts := fun (w : Cond) (h : w ∈ pw) => hts0 w (List.mem_cons_of_mem _ h)
  have hown : s.vm.findClass RX3 = some m.cls := findClass_of_methodNamed B.named
  have hlocks := B.notSynchronized
  have hin : meth.name = "<init>" := (name_of_methodNamed B.named B.method).1
  subst hsz
  have hD := hD0.self (sz := s.heap.size)
  generalize hAe : va_A [(h0, .inr (4, [.null, .null, .null, .null, .null, .int 0, .int 0, .int 0, .int 0]))] s.heap.size = A at hD hE ⊢
  have hA : ∀ q : Nat, s.heap.size ≤ q → A q := fun q h => by rw [← hAe]; exact Or.inr h
  have hS : va_S A s.heap s.heap [] := va_S.rf
  have hN := hE.1
  have hP : va_P (dC, dI) pcl [(h0, .inr (4, [.null, .null, .null, .null, .null, .int 0, .int 0, .int 0, .int 0]))] s.heap := hP
  have hl := lv_entry ([.ref h0, .ref d0]) (n := 3) (Nat.le_of_ble_eq_true rfl)
  rw [lg_entry_eq]
  generalize (lg_sl ([.ref h0, .ref d0]) ++ List.replicate (3 - (lg_sl ([.ref h0, .ref d0])).length) Slot.unset).toArray = ls at hl ⊢
  have hl : lv_has ls 3 [(0, .ref h0), (1, .ref d0)] := hl
  obtain ⟨H, hH0⟩ : ∃ H, H = s.heap := ⟨_, rfl⟩
  rw [← hH0] at hP ⊢
  have hS : va_S A s.heap H [] := by rw [hH0]; exact hS
  refine lv_aload_n hx hb dX3_init_0 rfl (lv_at hl 0 rfl) ?_
  refine W.objInit hx hb hown (hts _ e31) (hts _ e1) (hts _ e2) rfl (by rw [hml]; exact hl.1) rfl dX3_init_1 (Nat.le_of_ble_eq_true rfl) (Nat.le_of_ble_eq_true rfl) ?_
  refine W.eq (g2 := F0 m 4 ls []) rfl ?_
  refine lv_aload_n hx hb dX3_init_4 rfl (lv_at hl 0 rfl) ?_
  refine lv_bipush (v := 30) hx hb dX3_init_5 (by decide) ?_
  refine va_newa (atype := .boolean) (N' := 30) (a0 := (30, .inl (fun _ => 0))) hx hb (hts _ e9) rfl hK hP hD hS hA (fun _ => rfl) (by decide) (by decide) (Nat.le_of_ble_eq_true rfl) (Nat.le_of_ble_eq_true rfl) (Nat.le_of_ble_eq_true rfl) dX3_init_7 (fun q1 cA2 H hK hP hD hS => ?_)
  have hP : va_P (dC, dI) pcl [(h0, .inr (4, [.null, .null, .null, .null, .null, .int 0, .int 0, .int 0, .int 0])), (q1, .inl (cA2, 30, .inl (fun _ => 0)))] H := hP
  have hD : va_D A [(h0, .inr (4, [.null, .null, .null, .null, .null, .int 0, .int 0, .int 0, .int 0])), (q1, .inl (cA2, 30, .inl (fun _ => 0)))] := hD
  have hK : va_K (dC, dI) pcl [(cA2, .boolean)] s := hK
  refine W.widen (k := 1) (n := 30) (Nat.le_of_ble_eq_true rfl) (Nat.le_of_ble_eq_true rfl) ?_
  refine va_putF (D := (dC, dI)) (ci := 4) (v := .ref q1) (ty := .array (.boolean)) (C := RX3) (T := TX3) (N := 9) hx hb hts pinX3 tyX3 tyX3_ok nmX3 hown hK hP hD hS 0 rfl rfl 1 (by decide) (hts _ e32) (fun _ h9 => h9) rfl hin rfl (by decide +kernel) rfl rfl (Nat.le_of_ble_eq_true rfl) dX3_init_9 (fun H locs hP hD hS => ?_)
  have hP : va_P (dC, dI) pcl [(h0, .inr (4, [.null, .ref q1, .null, .null, .null, .int 0, .int 0, .int 0, .int 0])), (q1, .inl (cA2, 30, .inl (fun _ => 0)))] H := hP
  have hD : va_D A [(h0, .inr (4, [.null, .ref q1, .null, .null, .null, .int 0, .int 0, .int 0, .int 0])), (q1, .inl (cA2, 30, .inl (fun _ => 0)))] := hD
  refine lv_aload_n hx hb dX3_init_12 rfl (lv_at hl 0 rfl) ?_
  refine va_new (ci := 1) (fs := [.null]) (C := RX0) (T := TX0) (N := 1) hx hb hts pinX0 tyX0 tyX0_ok hown (hts _ e33) (hts _ e34) (hts _ e35) hK hP hD hS hA rfl (fun j hj => by rcases (show j = 0 by omega) with rfl <;> rfl) (Nat.le_of_ble_eq_true rfl) (Nat.le_of_ble_eq_true rfl) dX3_init_13 (fun q3 H hP hD hS => ?_)
  have hP : va_P (dC, dI) pcl [(h0, .inr (4, [.null, .ref q1, .null, .null, .null, .int 0, .int 0, .int 0, .int 0])), (q1, .inl (cA2, 30, .inl (fun _ => 0))), (q3, .inr (1, [.null]))] H := hP
  have hD : va_D A [(h0, .inr (4, [.null, .ref q1, .null, .null, .null, .int 0, .int 0, .int 0, .int 0])), (q1, .inl (cA2, 30, .inl (fun _ => 0))), (q3, .inr (1, [.null]))] := hD
  refine W.widen (k := 2) (n := 31) (Nat.le_of_ble_eq_true rfl) (Nat.le_of_ble_eq_true rfl) ?_
  refine lv_dup hx hb dX3_init_16 rfl ?_
  have hPc := hP.sub (ws' := [(q3, .inr (1, [.null]))]) [2] rfl
  have hDc := hD.sub (ws' := [(q3, .inr (1, [.null]))]) [2] (by decide) rfl
  have hKc := hK.sub (tys' := []) [] rfl
  have hFc := va_free (wc := [(q3, .inr (1, [.null]))]) hD hS hA [2] rfl
  refine va_callv (va_runIN (As := []) (rest := [.ref q3, .ref h0]) ⟨hx, hb, hml, hown, hts⟩ (c_X0_init l dC dI z q3 H.size) ⟨va_cnB 0 hts (ws_good e37) rfl rfl rfl (hN _ n0) (hts _ e35) ⟨by decide +kernel, by decide +kernel, by decide +kernel⟩ ⟨Nat.le_of_ble_eq_true rfl, Nat.le_of_ble_eq_true rfl⟩, rfl, (hts _ e36)⟩ ⟨pPre_blind, fun U hU hW => ⟨rfl, pPre_at hPc hKc hDc hE hS hFc U hU hW⟩⟩ rfl rfl hl.1 rfl (lv_room (Nat.le_of_ble_eq_true rfl)) dX3_init_17 ⟨Nat.le_of_ble_eq_true rfl, Nat.le_of_ble_eq_true rfl⟩) hS (fun q _ h => hFc q h) hFc (fun u t H1 locs ht hvm hw hB hz1 hk1 hS => ?_)
  obtain ⟨q5, cA6, hP1, hK1, hD1⟩ := hB
  rw [ht] at hP1
  have hK1 := va_K.moved hvm.symm hK1
  obtain ⟨hP, hD⟩ := va_join (wr := [(h0, .inr (4, [.null, .ref q1, .null, .null, .null, .int 0, .int 0, .int 0, .int 0])), (q1, .inl (cA2, 30, .inl (fun _ => 0)))]) (w1 := [(q3, .inr (1, [.ref q5])), (q5, .inl (cA6, 864, .inl (fun _ => 0)))]) hP hD [2] [0, 1] rfl rfl (by decide) (by decide) hk1 hFc hP1 hD1
  have hK := hK.app hK1
  generalize H1 = H at hP hS ⊢
  have hP : va_P (dC, dI) pcl [(h0, .inr (4, [.null, .ref q1, .null, .null, .null, .int 0, .int 0, .int 0, .int 0])), (q1, .inl (cA2, 30, .inl (fun _ => 0))), (q3, .inr (1, [.ref q5])), (q5, .inl (cA6, 864, .inl (fun _ => 0)))] H := hP
  have hD : va_D A [(h0, .inr (4, [.null, .ref q1, .null, .null, .null, .int 0, .int 0, .int 0, .int 0])), (q1, .inl (cA2, 30, .inl (fun _ => 0))), (q3, .inr (1, [.ref q5])), (q5, .inl (cA6, 864, .inl (fun _ => 0)))] := hD
  have hK : va_K (dC, dI) pcl [(cA2, .boolean), (cA6, .int)] s := hK
  refine W.widen (k := 3) (n := 895) (Nat.le_of_ble_eq_true rfl) (Nat.le_of_ble_eq_true rfl) ?_
  refine va_putF (D := (dC, dI)) (ci := 4) (v := .ref q3) (ty := .object "WordFoundry$Counts") (C := RX3) (T := TX3) (N := 9) hx hb hts pinX3 tyX3 tyX3_ok nmX3 hown hK hP hD hS 0 rfl rfl 2 (by decide) (hts _ e38) (fun _ h9 => h9) rfl hin rfl (by decide +kernel) rfl rfl (Nat.le_of_ble_eq_true rfl) dX3_init_20 (fun H locs hP hD hS => ?_)
  have hP : va_P (dC, dI) pcl [(h0, .inr (4, [.null, .ref q1, .ref q3, .null, .null, .int 0, .int 0, .int 0, .int 0])), (q1, .inl (cA2, 30, .inl (fun _ => 0))), (q3, .inr (1, [.ref q5])), (q5, .inl (cA6, 864, .inl (fun _ => 0)))] H := hP
  have hD : va_D A [(h0, .inr (4, [.null, .ref q1, .ref q3, .null, .null, .int 0, .int 0, .int 0, .int 0])), (q1, .inl (cA2, 30, .inl (fun _ => 0))), (q3, .inr (1, [.ref q5])), (q5, .inl (cA6, 864, .inl (fun _ => 0)))] := hD
  refine lv_aload_n hx hb dX3_init_23 rfl (lv_at hl 0 rfl) ?_
  refine lv_bipush (v := 41) hx hb dX3_init_24 (by decide) ?_
  refine va_newa (atype := .boolean) (N' := 41) (a0 := (41, .inl (fun _ => 0))) hx hb (hts _ e9) rfl hK hP hD hS hA (fun _ => rfl) (by decide) (by decide) (Nat.le_of_ble_eq_true rfl) (Nat.le_of_ble_eq_true rfl) (Nat.le_of_ble_eq_true rfl) dX3_init_26 (fun q7 cA8 H hK hP hD hS => ?_)
  have hP : va_P (dC, dI) pcl [(h0, .inr (4, [.null, .ref q1, .ref q3, .null, .null, .int 0, .int 0, .int 0, .int 0])), (q1, .inl (cA2, 30, .inl (fun _ => 0))), (q3, .inr (1, [.ref q5])), (q5, .inl (cA6, 864, .inl (fun _ => 0))), (q7, .inl (cA8, 41, .inl (fun _ => 0)))] H := hP
  have hD : va_D A [(h0, .inr (4, [.null, .ref q1, .ref q3, .null, .null, .int 0, .int 0, .int 0, .int 0])), (q1, .inl (cA2, 30, .inl (fun _ => 0))), (q3, .inr (1, [.ref q5])), (q5, .inl (cA6, 864, .inl (fun _ => 0))), (q7, .inl (cA8, 41, .inl (fun _ => 0)))] := hD
  have hK : va_K (dC, dI) pcl [(cA2, .boolean), (cA6, .int), (cA8, .boolean)] s := hK
  refine W.widen (k := 4) (n := 936) (Nat.le_of_ble_eq_true rfl) (Nat.le_of_ble_eq_true rfl) ?_
  refine va_putF (D := (dC, dI)) (ci := 4) (v := .ref q7) (ty := .array (.boolean)) (C := RX3) (T := TX3) (N := 9) hx hb hts pinX3 tyX3 tyX3_ok nmX3 hown hK hP hD hS 0 rfl rfl 3 (by decide) (hts _ e39) (fun _ h9 => h9) rfl hin rfl (by decide +kernel) rfl rfl (Nat.le_of_ble_eq_true rfl) dX3_init_28 (fun H locs hP hD hS => ?_)
  have hP : va_P (dC, dI) pcl [(h0, .inr (4, [.null, .ref q1, .ref q3, .ref q7, .null, .int 0, .int 0, .int 0, .int 0])), (q1, .inl (cA2, 30, .inl (fun _ => 0))), (q3, .inr (1, [.ref q5])), (q5, .inl (cA6, 864, .inl (fun _ => 0))), (q7, .inl (cA8, 41, .inl (fun _ => 0)))] H := hP
  have hD : va_D A [(h0, .inr (4, [.null, .ref q1, .ref q3, .ref q7, .null, .int 0, .int 0, .int 0, .int 0])), (q1, .inl (cA2, 30, .inl (fun _ => 0))), (q3, .inr (1, [.ref q5])), (q5, .inl (cA6, 864, .inl (fun _ => 0))), (q7, .inl (cA8, 41, .inl (fun _ => 0)))] := hD
  refine lv_aload_n hx hb dX3_init_31 rfl (lv_at hl 0 rfl) ?_
  refine lv_bipush (v := 41) hx hb dX3_init_32 (by decide) ?_
  refine va_newa (atype := .int) (N' := 41) (a0 := (41, .inl (fun _ => 0))) hx hb (hts _ e3) rfl hK hP hD hS hA (fun _ => rfl) (by decide) (by decide) (Nat.le_of_ble_eq_true rfl) (Nat.le_of_ble_eq_true rfl) (Nat.le_of_ble_eq_true rfl) dX3_init_34 (fun q9 cA10 H hK hP hD hS => ?_)
  have hP : va_P (dC, dI) pcl [(h0, .inr (4, [.null, .ref q1, .ref q3, .ref q7, .null, .int 0, .int 0, .int 0, .int 0])), (q1, .inl (cA2, 30, .inl (fun _ => 0))), (q3, .inr (1, [.ref q5])), (q5, .inl (cA6, 864, .inl (fun _ => 0))), (q7, .inl (cA8, 41, .inl (fun _ => 0))), (q9, .inl (cA10, 41, .inl (fun _ => 0)))] H := hP
  have hD : va_D A [(h0, .inr (4, [.null, .ref q1, .ref q3, .ref q7, .null, .int 0, .int 0, .int 0, .int 0])), (q1, .inl (cA2, 30, .inl (fun _ => 0))), (q3, .inr (1, [.ref q5])), (q5, .inl (cA6, 864, .inl (fun _ => 0))), (q7, .inl (cA8, 41, .inl (fun _ => 0))), (q9, .inl (cA10, 41, .inl (fun _ => 0)))] := hD
  have hK : va_K (dC, dI) pcl [(cA2, .boolean), (cA6, .int), (cA8, .boolean), (cA10, .int)] s := hK
  refine W.widen (k := 5) (n := 977) (Nat.le_of_ble_eq_true rfl) (Nat.le_of_ble_eq_true rfl) ?_
  refine va_putF (D := (dC, dI)) (ci := 4) (v := .ref q9) (ty := .array .int) (C := RX3) (T := TX3) (N := 9) hx hb hts pinX3 tyX3 tyX3_ok nmX3 hown hK hP hD hS 0 rfl rfl 4 (by decide) (hts _ e40) (fun _ h9 => h9) rfl hin rfl (by decide +kernel) rfl rfl (Nat.le_of_ble_eq_true rfl) dX3_init_36 (fun H locs hP hD hS => ?_)
  have hP : va_P (dC, dI) pcl [(h0, .inr (4, [.null, .ref q1, .ref q3, .ref q7, .ref q9, .int 0, .int 0, .int 0, .int 0])), (q1, .inl (cA2, 30, .inl (fun _ => 0))), (q3, .inr (1, [.ref q5])), (q5, .inl (cA6, 864, .inl (fun _ => 0))), (q7, .inl (cA8, 41, .inl (fun _ => 0))), (q9, .inl (cA10, 41, .inl (fun _ => 0)))] H := hP
  have hD : va_D A [(h0, .inr (4, [.null, .ref q1, .ref q3, .ref q7, .ref q9, .int 0, .int 0, .int 0, .int 0])), (q1, .inl (cA2, 30, .inl (fun _ => 0))), (q3, .inr (1, [.ref q5])), (q5, .inl (cA6, 864, .inl (fun _ => 0))), (q7, .inl (cA8, 41, .inl (fun _ => 0))), (q9, .inl (cA10, 41, .inl (fun _ => 0)))] := hD
  refine lv_aload_n hx hb dX3_init_39 rfl (lv_at hl 0 rfl) ?_
  refine lv_aload_n hx hb dX3_init_40 rfl (lv_at hl 1 rfl) ?_
  refine va_putF (D := (dC, dI)) (ci := 4) (v := .ref d0) (ty := .object "WordFoundry$Dictionary") (C := RX3) (T := TX3) (N := 9) hx hb hts pinX3 tyX3 tyX3_ok nmX3 hown hK hP hD hS 0 rfl rfl 0 (by decide) (hts _ e41) (fun _ h9 => h9) rfl hin rfl (by decide +kernel) rfl rfl (Nat.le_of_ble_eq_true rfl) dX3_init_41 (fun H locs hP hD hS => ?_)
  have hP : va_P (dC, dI) pcl [(h0, .inr (4, [.ref d0, .ref q1, .ref q3, .ref q7, .ref q9, .int 0, .int 0, .int 0, .int 0])), (q1, .inl (cA2, 30, .inl (fun _ => 0))), (q3, .inr (1, [.ref q5])), (q5, .inl (cA6, 864, .inl (fun _ => 0))), (q7, .inl (cA8, 41, .inl (fun _ => 0))), (q9, .inl (cA10, 41, .inl (fun _ => 0)))] H := hP
  have hD : va_D A [(h0, .inr (4, [.ref d0, .ref q1, .ref q3, .ref q7, .ref q9, .int 0, .int 0, .int 0, .int 0])), (q1, .inl (cA2, 30, .inl (fun _ => 0))), (q3, .inr (1, [.ref q5])), (q5, .inl (cA6, 864, .inl (fun _ => 0))), (q7, .inl (cA8, 41, .inl (fun _ => 0))), (q9, .inl (cA10, 41, .inl (fun _ => 0)))] := hD
  refine lv_iconst (v := 0) hx hb dX3_init_44 (by decide) ?_
  refine lv_istore_n (lv' := [(2, .int 0), (0, .ref h0), (1, .ref d0)]) hx hb dX3_init_45 rfl hl (by decide) rfl (fun ls hl => ?_)
  refine lv_iload_n hx hb dX3_init_46 rfl (lv_at hl 0 rfl) ?_
  refine lv_iconst (v := 4) hx hb dX3_init_47 (by decide) ?_
  refine lv_icmp_ge (tgt := 69) hx hb dX3_init_48 (by decide) (fun h9 => absurd h9 (by decide)) (fun _ => ?_)
  refine lv_aload_n hx hb dX3_init_51 rfl (lv_at hl 1 rfl) ?_
  refine va_get (D := (dC, dI)) (ci := 4) (v := .ref q3) (C := RX3) (T := TX3) (N := 9) hx hb hts pinX3 hown hK hP 0 rfl rfl 2 (by decide) (hts _ e38) (fun _ h9 => h9) rfl dX3_init_52 ?_
  refine lv_bipush (v := 101) hx hb dX3_init_55 (by decide) ?_
  refine lv_iload_n hx hb dX3_init_57 rfl (lv_at hl 0 rfl) ?_
  refine lv_iadd hx hb dX3_init_58 ?_
  refine W.eq (g2 := F0 m 59 ls [.int 101, .ref q3]) (by rfl) ?_
  refine lv_iload_n hx hb dX3_init_59 rfl (lv_at hl 0 rfl) ?_
  have hPc := hP.sub (ws' := [(q3, .inr (1, [.ref q5])), (q5, .inl (cA6, 864, .inl (fun _ => 0)))]) [2, 3] rfl
  have hDc := hD.sub (ws' := [(q3, .inr (1, [.ref q5])), (q5, .inl (cA6, 864, .inl (fun _ => 0)))]) [2, 3] (by decide) rfl
  have hKc := hK.sub (tys' := [(cA6, .int)]) [1] rfl
  have hFc := va_free (wc := [(q3, .inr (1, [.ref q5])), (q5, .inl (cA6, 864, .inl (fun _ => 0)))]) hD hS hA [2, 3] rfl
  refine va_callv (va_runVN (As := [.int 101, .int 0]) (rest := []) ⟨hx, hb, hml, hown, hts⟩ (c_X0_set0 l dC dI z q3 q5 cA6 (fun _ => 0) H.size) ⟨va_cnB 2 hts (ws_good e43) rfl rfl rfl (hN _ n1) (hts _ e35) ⟨by decide +kernel, by decide +kernel, by decide +kernel⟩ ⟨Nat.le_of_ble_eq_true rfl, Nat.le_of_ble_eq_true rfl⟩, (hts _ e42), (hts _ e44)⟩ ⟨pPre_blind, va_recv hKc hPc (ci := 1) (q0 := 0) rfl rfl, fun U hU hW => ⟨rfl, pPre_at hPc hKc hDc hE hS hFc U hU hW⟩⟩ rfl rfl hl.1 rfl (lv_room (Nat.le_of_ble_eq_true rfl)) dX3_init_60 ⟨Nat.le_of_ble_eq_true rfl, Nat.le_of_ble_eq_true rfl⟩) hS (fun q _ h => hFc q h) hFc (fun u t H1 locs ht hvm hw hB hz1 hk1 hS => ?_)
  obtain ⟨y12, hP1, hK1, hD1⟩ := hB
  rw [ht] at hP1
  have hK1 := va_K.moved hvm.symm hK1
  obtain ⟨hP, hD⟩ := va_join (wr := [(h0, .inr (4, [.ref d0, .ref q1, .ref q3, .ref q7, .ref q9, .int 0, .int 0, .int 0, .int 0])), (q1, .inl (cA2, 30, .inl (fun _ => 0))), (q7, .inl (cA8, 41, .inl (fun _ => 0))), (q9, .inl (cA10, 41, .inl (fun _ => 0)))]) (w1 := [(q3, .inr (1, [.ref q5])), (q5, .inl (cA6, 864, .inl y12))]) hP hD [2, 3] [0, 1, 4, 5] rfl rfl (by decide) (by decide) hk1 hFc hP1 hD1
  have hK := hK.app hK1
  generalize H1 = H at hP hS ⊢
  have hP : va_P (dC, dI) pcl [(h0, .inr (4, [.ref d0, .ref q1, .ref q3, .ref q7, .ref q9, .int 0, .int 0, .int 0, .int 0])), (q1, .inl (cA2, 30, .inl (fun _ => 0))), (q7, .inl (cA8, 41, .inl (fun _ => 0))), (q9, .inl (cA10, 41, .inl (fun _ => 0))), (q3, .inr (1, [.ref q5])), (q5, .inl (cA6, 864, .inl y12))] H := hP
  have hD : va_D A [(h0, .inr (4, [.ref d0, .ref q1, .ref q3, .ref q7, .ref q9, .int 0, .int 0, .int 0, .int 0])), (q1, .inl (cA2, 30, .inl (fun _ => 0))), (q7, .inl (cA8, 41, .inl (fun _ => 0))), (q9, .inl (cA10, 41, .inl (fun _ => 0))), (q3, .inr (1, [.ref q5])), (q5, .inl (cA6, 864, .inl y12))] := hD
  have hK : va_K (dC, dI) pcl [(cA2, .boolean), (cA6, .int), (cA8, .boolean), (cA10, .int), (cA6, .int)] s := hK
  have hK := hK.sub (tys' := [(cA2, .boolean), (cA6, .int), (cA8, .boolean), (cA10, .int)]) [0, 1, 2, 3] rfl
  refine lv_iinc (v := 1) (lv' := [(2, .int 1), (0, .ref h0), (1, .ref d0)]) hx hb dX3_init_63 hl (k := 0) rfl (by decide) (by decide) rfl (fun ls hl => ?_)
  refine lv_goto (tgt := 46) hx hb dX3_init_66 (by decide) ?_
  refine lv_iload_n hx hb dX3_init_46 rfl (lv_at hl 0 rfl) ?_
  refine lv_iconst (v := 4) hx hb dX3_init_47 (by decide) ?_
  refine lv_icmp_ge (tgt := 69) hx hb dX3_init_48 (by decide) (fun h9 => absurd h9 (by decide)) (fun _ => ?_)
  refine lv_aload_n hx hb dX3_init_51 rfl (lv_at hl 1 rfl) ?_
  refine va_get (D := (dC, dI)) (ci := 4) (v := .ref q3) (C := RX3) (T := TX3) (N := 9) hx hb hts pinX3 hown hK hP 0 rfl rfl 2 (by decide) (hts _ e38) (fun _ h9 => h9) rfl dX3_init_52 ?_
  refine lv_bipush (v := 101) hx hb dX3_init_55 (by decide) ?_
  refine lv_iload_n hx hb dX3_init_57 rfl (lv_at hl 0 rfl) ?_
  refine lv_iadd hx hb dX3_init_58 ?_
  refine W.eq (g2 := F0 m 59 ls [.int 102, .ref q3]) (by rfl) ?_
  refine lv_iload_n hx hb dX3_init_59 rfl (lv_at hl 0 rfl) ?_
  have hPc := hP.sub (ws' := [(q3, .inr (1, [.ref q5])), (q5, .inl (cA6, 864, .inl y12))]) [4, 5] rfl
  have hDc := hD.sub (ws' := [(q3, .inr (1, [.ref q5])), (q5, .inl (cA6, 864, .inl y12))]) [4, 5] (by decide) rfl
  have hKc := hK.sub (tys' := [(cA6, .int)]) [1] rfl
  have hFc := va_free (wc := [(q3, .inr (1, [.ref q5])), (q5, .inl (cA6, 864, .inl y12))]) hD hS hA [4, 5] rfl
  refine va_callv (va_runVN (As := [.int 102, .int 1]) (rest := []) ⟨hx, hb, hml, hown, hts⟩ (c_X0_set1 l dC dI z q3 q5 cA6 y12 H.size) ⟨va_cnB 2 hts (ws_good e43) rfl rfl rfl (hN _ n1) (hts _ e35) ⟨by decide +kernel, by decide +kernel, by decide +kernel⟩ ⟨Nat.le_of_ble_eq_true rfl, Nat.le_of_ble_eq_true rfl⟩, (hts _ e42), (hts _ e44)⟩ ⟨pPre_blind, va_recv hKc hPc (ci := 1) (q0 := 0) rfl rfl, fun U hU hW => ⟨rfl, pPre_at hPc hKc hDc hE hS hFc U hU hW⟩⟩ rfl rfl hl.1 rfl (lv_room (Nat.le_of_ble_eq_true rfl)) dX3_init_60 ⟨Nat.le_of_ble_eq_true rfl, Nat.le_of_ble_eq_true rfl⟩) hS (fun q _ h => hFc q h) hFc (fun u t H1 locs ht hvm hw hB hz1 hk1 hS => ?_)
  obtain ⟨y14, hP1, hK1, hD1⟩ := hB
  rw [ht] at hP1
  have hK1 := va_K.moved hvm.symm hK1
  obtain ⟨hP, hD⟩ := va_join (wr := [(h0, .inr (4, [.ref d0, .ref q1, .ref q3, .ref q7, .ref q9, .int 0, .int 0, .int 0, .int 0])), (q1, .inl (cA2, 30, .inl (fun _ => 0))), (q7, .inl (cA8, 41, .inl (fun _ => 0))), (q9, .inl (cA10, 41, .inl (fun _ => 0)))]) (w1 := [(q3, .inr (1, [.ref q5])), (q5, .inl (cA6, 864, .inl y14))]) hP hD [4, 5] [0, 1, 2, 3] rfl rfl (by decide) (by decide) hk1 hFc hP1 hD1
  have hK := hK.app hK1
  generalize H1 = H at hP hS ⊢
  have hP : va_P (dC, dI) pcl [(h0, .inr (4, [.ref d0, .ref q1, .ref q3, .ref q7, .ref q9, .int 0, .int 0, .int 0, .int 0])), (q1, .inl (cA2, 30, .inl (fun _ => 0))), (q7, .inl (cA8, 41, .inl (fun _ => 0))), (q9, .inl (cA10, 41, .inl (fun _ => 0))), (q3, .inr (1, [.ref q5])), (q5, .inl (cA6, 864, .inl y14))] H := hP
  have hD : va_D A [(h0, .inr (4, [.ref d0, .ref q1, .ref q3, .ref q7, .ref q9, .int 0, .int 0, .int 0, .int 0])), (q1, .inl (cA2, 30, .inl (fun _ => 0))), (q7, .inl (cA8, 41, .inl (fun _ => 0))), (q9, .inl (cA10, 41, .inl (fun _ => 0))), (q3, .inr (1, [.ref q5])), (q5, .inl (cA6, 864, .inl y14))] := hD
  have hK : va_K (dC, dI) pcl [(cA2, .boolean), (cA6, .int), (cA8, .boolean), (cA10, .int), (cA6, .int)] s := hK
  have hK := hK.sub (tys' := [(cA2, .boolean), (cA6, .int), (cA8, .boolean), (cA10, .int)]) [0, 1, 2, 3] rfl
  refine lv_iinc (v := 2) (lv' := [(2, .int 2), (0, .ref h0), (1, .ref d0)]) hx hb dX3_init_63 hl (k := 0) rfl (by decide) (by decide) rfl (fun ls hl => ?_)
  refine lv_goto (tgt := 46) hx hb dX3_init_66 (by decide) ?_
  refine lv_iload_n hx hb dX3_init_46 rfl (lv_at hl 0 rfl) ?_
  refine lv_iconst (v := 4) hx hb dX3_init_47 (by decide) ?_
  refine lv_icmp_ge (tgt := 69) hx hb dX3_init_48 (by decide) (fun h9 => absurd h9 (by decide)) (fun _ => ?_)
  refine lv_aload_n hx hb dX3_init_51 rfl (lv_at hl 1 rfl) ?_
  refine va_get (D := (dC, dI)) (ci := 4) (v := .ref q3) (C := RX3) (T := TX3) (N := 9) hx hb hts pinX3 hown hK hP 0 rfl rfl 2 (by decide) (hts _ e38) (fun _ h9 => h9) rfl dX3_init_52 ?_
  refine lv_bipush (v := 101) hx hb dX3_init_55 (by decide) ?_
  refine lv_iload_n hx hb dX3_init_57 rfl (lv_at hl 0 rfl) ?_
  refine lv_iadd hx hb dX3_init_58 ?_
  refine W.eq (g2 := F0 m 59 ls [.int 103, .ref q3]) (by rfl) ?_
  refine lv_iload_n hx hb dX3_init_59 rfl (lv_at hl 0 rfl) ?_
  have hPc := hP.sub (ws' := [(q3, .inr (1, [.ref q5])), (q5, .inl (cA6, 864, .inl y14))]) [4, 5] rfl
  have hDc := hD.sub (ws' := [(q3, .inr (1, [.ref q5])), (q5, .inl (cA6, 864, .inl y14))]) [4, 5] (by decide) rfl
  have hKc := hK.sub (tys' := [(cA6, .int)]) [1] rfl
  have hFc := va_free (wc := [(q3, .inr (1, [.ref q5])), (q5, .inl (cA6, 864, .inl y14))]) hD hS hA [4, 5] rfl
  refine va_callv (va_runVN (As := [.int 103, .int 2]) (rest := []) ⟨hx, hb, hml, hown, hts⟩ (c_X0_set2 l dC dI z q3 q5 cA6 y14 H.size) ⟨va_cnB 2 hts (ws_good e43) rfl rfl rfl (hN _ n1) (hts _ e35) ⟨by decide +kernel, by decide +kernel, by decide +kernel⟩ ⟨Nat.le_of_ble_eq_true rfl, Nat.le_of_ble_eq_true rfl⟩, (hts _ e42), (hts _ e44)⟩ ⟨pPre_blind, va_recv hKc hPc (ci := 1) (q0 := 0) rfl rfl, fun U hU hW => ⟨rfl, pPre_at hPc hKc hDc hE hS hFc U hU hW⟩⟩ rfl rfl hl.1 rfl (lv_room (Nat.le_of_ble_eq_true rfl)) dX3_init_60 ⟨Nat.le_of_ble_eq_true rfl, Nat.le_of_ble_eq_true rfl⟩) hS (fun q _ h => hFc q h) hFc (fun u t H1 locs ht hvm hw hB hz1 hk1 hS => ?_)
  obtain ⟨y16, hP1, hK1, hD1⟩ := hB
  rw [ht] at hP1
  have hK1 := va_K.moved hvm.symm hK1
  obtain ⟨hP, hD⟩ := va_join (wr := [(h0, .inr (4, [.ref d0, .ref q1, .ref q3, .ref q7, .ref q9, .int 0, .int 0, .int 0, .int 0])), (q1, .inl (cA2, 30, .inl (fun _ => 0))), (q7, .inl (cA8, 41, .inl (fun _ => 0))), (q9, .inl (cA10, 41, .inl (fun _ => 0)))]) (w1 := [(q3, .inr (1, [.ref q5])), (q5, .inl (cA6, 864, .inl y16))]) hP hD [4, 5] [0, 1, 2, 3] rfl rfl (by decide) (by decide) hk1 hFc hP1 hD1
  have hK := hK.app hK1
  generalize H1 = H at hP hS ⊢
  have hP : va_P (dC, dI) pcl [(h0, .inr (4, [.ref d0, .ref q1, .ref q3, .ref q7, .ref q9, .int 0, .int 0, .int 0, .int 0])), (q1, .inl (cA2, 30, .inl (fun _ => 0))), (q7, .inl (cA8, 41, .inl (fun _ => 0))), (q9, .inl (cA10, 41, .inl (fun _ => 0))), (q3, .inr (1, [.ref q5])), (q5, .inl (cA6, 864, .inl y16))] H := hP
  have hD : va_D A [(h0, .inr (4, [.ref d0, .ref q1, .ref q3, .ref q7, .ref q9, .int 0, .int 0, .int 0, .int 0])), (q1, .inl (cA2, 30, .inl (fun _ => 0))), (q7, .inl (cA8, 41, .inl (fun _ => 0))), (q9, .inl (cA10, 41, .inl (fun _ => 0))), (q3, .inr (1, [.ref q5])), (q5, .inl (cA6, 864, .inl y16))] := hD
  have hK : va_K (dC, dI) pcl [(cA2, .boolean), (cA6, .int), (cA8, .boolean), (cA10, .int), (cA6, .int)] s := hK
  have hK := hK.sub (tys' := [(cA2, .boolean), (cA6, .int), (cA8, .boolean), (cA10, .int)]) [0, 1, 2, 3] rfl
  refine lv_iinc (v := 3) (lv' := [(2, .int 3), (0, .ref h0), (1, .ref d0)]) hx hb dX3_init_63 hl (k := 0) rfl (by decide) (by decide) rfl (fun ls hl => ?_)
  refine lv_goto (tgt := 46) hx hb dX3_init_66 (by decide) ?_
  refine lv_iload_n hx hb dX3_init_46 rfl (lv_at hl 0 rfl) ?_
  refine lv_iconst (v := 4) hx hb dX3_init_47 (by decide) ?_
  refine lv_icmp_ge (tgt := 69) hx hb dX3_init_48 (by decide) (fun h9 => absurd h9 (by decide)) (fun _ => ?_)
  refine lv_aload_n hx hb dX3_init_51 rfl (lv_at hl 1 rfl) ?_
  refine va_get (D := (dC, dI)) (ci := 4) (v := .ref q3) (C := RX3) (T := TX3) (N := 9) hx hb hts pinX3 hown hK hP 0 rfl rfl 2 (by decide) (hts _ e38) (fun _ h9 => h9) rfl dX3_init_52 ?_
  refine lv_bipush (v := 101) hx hb dX3_init_55 (by decide) ?_
  refine lv_iload_n hx hb dX3_init_57 rfl (lv_at hl 0 rfl) ?_
  refine lv_iadd hx hb dX3_init_58 ?_
  refine W.eq (g2 := F0 m 59 ls [.int 104, .ref q3]) (by rfl) ?_
  refine lv_iload_n hx hb dX3_init_59 rfl (lv_at hl 0 rfl) ?_
  have hPc := hP.sub (ws' := [(q3, .inr (1, [.ref q5])), (q5, .inl (cA6, 864, .inl y16))]) [4, 5] rfl
  have hDc := hD.sub (ws' := [(q3, .inr (1, [.ref q5])), (q5, .inl (cA6, 864, .inl y16))]) [4, 5] (by decide) rfl
  have hKc := hK.sub (tys' := [(cA6, .int)]) [1] rfl
  have hFc := va_free (wc := [(q3, .inr (1, [.ref q5])), (q5, .inl (cA6, 864, .inl y16))]) hD hS hA [4, 5] rfl
  refine va_callv (va_runVN (As := [.int 104, .int 3]) (rest := []) ⟨hx, hb, hml, hown, hts⟩ (c_X0_set3 l dC dI z q3 q5 cA6 y16 H.size) ⟨va_cnB 2 hts (ws_good e43) rfl rfl rfl (hN _ n1) (hts _ e35) ⟨by decide +kernel, by decide +kernel, by decide +kernel⟩ ⟨Nat.le_of_ble_eq_true rfl, Nat.le_of_ble_eq_true rfl⟩, (hts _ e42), (hts _ e44)⟩ ⟨pPre_blind, va_recv hKc hPc (ci := 1) (q0 := 0) rfl rfl, fun U hU hW => ⟨rfl, pPre_at hPc hKc hDc hE hS hFc U hU hW⟩⟩ rfl rfl hl.1 rfl (lv_room (Nat.le_of_ble_eq_true rfl)) dX3_init_60 ⟨Nat.le_of_ble_eq_true rfl, Nat.le_of_ble_eq_true rfl⟩) hS (fun q _ h => hFc q h) hFc (fun u t H1 locs ht hvm hw hB hz1 hk1 hS => ?_)
  obtain ⟨y18, hP1, hK1, hD1⟩ := hB
  rw [ht] at hP1
  have hK1 := va_K.moved hvm.symm hK1
  obtain ⟨hP, hD⟩ := va_join (wr := [(h0, .inr (4, [.ref d0, .ref q1, .ref q3, .ref q7, .ref q9, .int 0, .int 0, .int 0, .int 0])), (q1, .inl (cA2, 30, .inl (fun _ => 0))), (q7, .inl (cA8, 41, .inl (fun _ => 0))), (q9, .inl (cA10, 41, .inl (fun _ => 0)))]) (w1 := [(q3, .inr (1, [.ref q5])), (q5, .inl (cA6, 864, .inl y18))]) hP hD [4, 5] [0, 1, 2, 3] rfl rfl (by decide) (by decide) hk1 hFc hP1 hD1
  have hK := hK.app hK1
  generalize H1 = H at hP hS ⊢
  have hP : va_P (dC, dI) pcl [(h0, .inr (4, [.ref d0, .ref q1, .ref q3, .ref q7, .ref q9, .int 0, .int 0, .int 0, .int 0])), (q1, .inl (cA2, 30, .inl (fun _ => 0))), (q7, .inl (cA8, 41, .inl (fun _ => 0))), (q9, .inl (cA10, 41, .inl (fun _ => 0))), (q3, .inr (1, [.ref q5])), (q5, .inl (cA6, 864, .inl y18))] H := hP
  have hD : va_D A [(h0, .inr (4, [.ref d0, .ref q1, .ref q3, .ref q7, .ref q9, .int 0, .int 0, .int 0, .int 0])), (q1, .inl (cA2, 30, .inl (fun _ => 0))), (q7, .inl (cA8, 41, .inl (fun _ => 0))), (q9, .inl (cA10, 41, .inl (fun _ => 0))), (q3, .inr (1, [.ref q5])), (q5, .inl (cA6, 864, .inl y18))] := hD
  have hK : va_K (dC, dI) pcl [(cA2, .boolean), (cA6, .int), (cA8, .boolean), (cA10, .int), (cA6, .int)] s := hK
  have hK := hK.sub (tys' := [(cA2, .boolean), (cA6, .int), (cA8, .boolean), (cA10, .int)]) [0, 1, 2, 3] rfl
  refine lv_iinc (v := 4) (lv' := [(2, .int 4), (0, .ref h0), (1, .ref d0)]) hx hb dX3_init_63 hl (k := 0) rfl (by decide) (by decide) rfl (fun ls hl => ?_)
  refine lv_goto (tgt := 46) hx hb dX3_init_66 (by decide) ?_
  refine lv_iload_n hx hb dX3_init_46 rfl (lv_at hl 0 rfl) ?_
  refine lv_iconst (v := 4) hx hb dX3_init_47 (by decide) ?_
  refine lv_icmp_ge (tgt := 69) hx hb dX3_init_48 (by decide) (fun _ => ?_) (fun h9 => absurd (by decide) h9)
  have hP9 := hP.sub (ws' := [(h0, .inr (4, [.ref d0, .ref q1, .ref q3, .ref q7, .ref q9, .int 0, .int 0, .int 0, .int 0]))]) [0] rfl
  have hD9 := hD.sub (ws' := [(h0, .inr (4, [.ref d0, .ref q1, .ref q3, .ref q7, .ref q9, .int 0, .int 0, .int 0, .int 0]))]) [0] (by decide) rfl
  have hK9 := hK.sub (tys' := []) [] rfl
  refine W.widen (k := 5) (n := 977) (Nat.le_of_ble_eq_true rfl) (Nat.le_of_ble_eq_true rfl) ?_
  exact W.vret hx hb hr (fun t ht hW => ⟨⟨(), rfl, trivial, q1, q3, q7, q9, by rw [ht]; exact hP9, va_K.moved hW.alike hK9, hD9⟩, hS.F ht⟩) hS.2.2 dX3_init_69
set_option maxHeartbeats 4000000 in
set_option maxRecDepth 100000 in
theorem c_X9_init (l : Launch) (dC : Nat → ClassId) (dI : Nat → Nat → Nat) (z : pG) (h0 : Nat) (sz : Nat) : Met l yX9_init (ws_ yX9_init cX9_init 1 none) ({ frames := 3, cells := 75, slots := 12728, locals := 53 }) (va_Pc [.ref h0] (pPre z dC dI [(h0, .inr (10, [.null, .null, .null, .null]))] [] sz)) (va_Qv (fun (_ : Unit) => True) (fun _ t => ∃ (a1 : Nat) (a2 : Nat) (a3 : Nat) (a4 : Nat), pPost dC dI (va_A [(h0, .inr (10, [.null, .null, .null, .null]))] sz) [(h0, .inr (10, [.ref a1, .ref a2, .ref a3, .ref a4]))] [] t) (va_A [(h0, .inr (10, [.null, .null, .null, .null]))] sz)) 75 12728 (va_A [(h0, .inr (10, [.null, .null, .null, .null]))] sz) := by
  refine Met.ofW (cc := cX9_init) (maxL := 1) (ret := none) (by decide) rfl ?_
  intro p e s m args below meth c s₁ B hml hv
  obtain ⟨rfl, hsz, hP, hK, hD0, hE⟩ := hv
  have hx := B.exec
  have hb := B.bytes
  have hr := B.returns
  have hts0 := atoms_spec (ws := ws_ yX9_init cX9_init 1 none) B.pre
  have hts := fun (w : Cond) (h : w ∈ pw) => hts0 w (List.mem_cons_of_mem _ h)
  have hown : s.vm.findClass RX9 = some m.cls := findClass_of_methodNamed B.named
  have hlocks := B.notSynchronized
  have hin : meth.name = "<init>" := (name_of_methodNamed B.named B.method).1
  subst hsz
  have hD := hD0.self (sz := s.heap.size)
  generalize hAe : va_A [(h0, .inr (10, [.null, .null, .null, .null]))] s.heap.size = A at hD hE ⊢
  have hA : ∀ q : Nat, s.heap.size ≤ q → A q := fun q h => by rw [← hAe]; exact Or.inr h
  have hS : va_S A s.heap s.heap [] := va_S.rf
  have hN := hE.1
  have hP : va_P (dC, dI) pcl [(h0, .inr (10, [.null, .null, .null, .null]))] s.heap := hP
  have hl := lv_entry ([.ref h0]) (n := 1) (Nat.le_of_ble_eq_true rfl)
  rw [lg_entry_eq]
  generalize (lg_sl ([.ref h0]) ++ List.replicate (1 - (lg_sl ([.ref h0])).length) Slot.unset).toArray = ls at hl ⊢
  have hl : lv_has ls 1 [(0, .ref h0)] := hl
  obtain ⟨H, hH0⟩ : ∃ H, H = s.heap := ⟨_, rfl⟩
  rw [← hH0] at hP ⊢
  have hS : va_S A s.heap H [] := by rw [hH0]; exact hS
  refine lv_aload_n hx hb dX9_init_0 rfl (lv_at hl 0 rfl) ?_
  refine W.objInit hx hb hown (hts _ e94) (hts _ e1) (hts _ e2) rfl (by rw [hml]; exact hl.1) rfl dX9_init_1 (Nat.le_of_ble_eq_true rfl) (Nat.le_of_ble_eq_true rfl) ?_
  refine W.eq (g2 := F0 m 4 ls []) rfl ?_
  refine lv_aload_n hx hb dX9_init_4 rfl (lv_at hl 0 rfl) ?_
  refine va_new (ci := 7) (fs := [.null, .null, .null, .null, .null, .null, .null, .null, .null, .int 0, .int 0, .int 0, .int 0, .int 0, .int 0, .int 0]) (C := RX6) (T := TX6) (N := 16) hx hb hts pinX6 tyX6 tyX6_ok hown (hts _ e95) (hts _ e96) (hts _ e97) hK hP hD hS hA rfl (fun j hj => by rcases (show j = 0 ∨ j = 1 ∨ j = 2 ∨ j = 3 ∨ j = 4 ∨ j = 5 ∨ j = 6 ∨ j = 7 ∨ j = 8 ∨ j = 9 ∨ j = 10 ∨ j = 11 ∨ j = 12 ∨ j = 13 ∨ j = 14 ∨ j = 15 by omega) with rfl | rfl | rfl | rfl | rfl | rfl | rfl | rfl | rfl | rfl | rfl | rfl | rfl | rfl | rfl | rfl <;> rfl) (Nat.le_of_ble_eq_true rfl) (Nat.le_of_ble_eq_true rfl) dX9_init_5 (fun q1 H hP hD hS => ?_)
  have hP : va_P (dC, dI) pcl [(h0, .inr (10, [.null, .null, .null, .null])), (q1, .inr (7, [.null, .null, .null, .null, .null, .null, .null, .null, .null, .int 0, .int 0, .int 0, .int 0, .int 0, .int 0, .int 0]))] H := hP
  have hD : va_D A [(h0, .inr (10, [.null, .null, .null, .null])), (q1, .inr (7, [.null, .null, .null, .null, .null, .null, .null, .null, .null, .int 0, .int 0, .int 0, .int 0, .int 0, .int 0, .int 0]))] := hD
  refine W.widen (k := 1) (n := 16) (Nat.le_of_ble_eq_true rfl) (Nat.le_of_ble_eq_true rfl) ?_
  refine lv_dup hx hb dX9_init_8 rfl ?_
  refine lv_sipush (v := 150) hx hb dX9_init_9 (by decide) ?_
  have hPc := hP.sub (ws' := [(q1, .inr (7, [.null, .null, .null, .null, .null, .null, .null, .null, .null, .int 0, .int 0, .int 0, .int 0, .int 0, .int 0, .int 0]))]) [1] rfl
  have hDc := hD.sub (ws' := [(q1, .inr (7, [.null, .null, .null, .null, .null, .null, .null, .null, .null, .int 0, .int 0, .int 0, .int 0, .int 0, .int 0, .int 0]))]) [1] (by decide) rfl
  have hKc := hK.sub (tys' := []) [] rfl
  have hFc := va_free (wc := [(q1, .inr (7, [.null, .null, .null, .null, .null, .null, .null, .null, .null, .int 0, .int 0, .int 0, .int 0, .int 0, .int 0, .int 0]))]) hD hS hA [1] rfl
  refine va_callv (va_runIN (As := [.int 150]) (rest := [.ref q1, .ref h0]) ⟨hx, hb, hml, hown, hts⟩ (c_X6_init l dC dI z q1 150 H.size) ⟨va_cnB 1 hts (ws_good e99) rfl rfl rfl (hN _ n8) (hts _ e97) ⟨by decide +kernel, by decide +kernel, by decide +kernel⟩ ⟨Nat.le_of_ble_eq_true rfl, Nat.le_of_ble_eq_true rfl⟩, rfl, (hts _ e98)⟩ ⟨pPre_blind, fun U hU hW => ⟨rfl, pPre_at hPc hKc hDc hE hS hFc U hU hW⟩⟩ rfl rfl hl.1 rfl (lv_room (Nat.le_of_ble_eq_true rfl)) dX9_init_12 ⟨Nat.le_of_ble_eq_true rfl, Nat.le_of_ble_eq_true rfl⟩) hS (fun q _ h => hFc q h) hFc (fun u t H1 locs ht hvm hw hB hz1 hk1 hS => ?_)
  obtain ⟨q3, q4, q5, q6, q7, q8, q9, q10, q11, q12, q13, q14, q15, q16, q17, q18, q19, q20, q21, q22, q23, q24, q25, q26, q27, q28, q29, q30, q31, q32, q33, q34, q35, q36, cA37, cA38, cA39, hP1, hK1, hD1⟩ := hB
  rw [ht] at hP1
  have hK1 := va_K.moved hvm.symm hK1
  obtain ⟨hP, hD⟩ := va_join (wr := [(h0, .inr (10, [.null, .null, .null, .null]))]) (w1 := [(q1, .inr (7, [.ref q3, .ref q4, .ref q5, .ref q6, .ref q7, .ref q8, .ref q9, .ref q10, .ref q11, .int 150, .int 0, .int 0, .int 0, .int 0, .int 0, .int 0])), (q3, .inr (11, [.ref q12, .ref q13, .ref q14, .int 0])), (q4, .inr (11, [.ref q15, .ref q16, .ref q17, .int 0])), (q5, .inl (cA37, 100, .inl (fun _ => 0))), (q6, .inr (8, [.ref q18, .int 0])), (q7, .inr (2, [.ref q19, .ref q20, .ref q21, .ref q22, .ref q23, .ref q24, .ref q25, .ref q26, .ref q27, .ref q28, .int 0, .int 0, .int 0])), (q8, .inr (3, [.ref q29, .ref q30, .ref q31, .ref q32, .ref q33, .ref q34, .int 0, .int 0, .int 0, .int 0, .int 0])), (q9, .inr (6, [.ref q35, .ref q36, .int 0, .int 0])), (q35, .inl (cA38, 40, .inl (fun _ => 0))), (q36, .inl (cA39, 40, .inl (fun _ => 0)))]) hP hD [1] [0] rfl rfl (by decide) (by decide) hk1 hFc hP1 hD1
  have hK := hK.app hK1
  generalize H1 = H at hP hS ⊢
  have hP : va_P (dC, dI) pcl [(h0, .inr (10, [.null, .null, .null, .null])), (q1, .inr (7, [.ref q3, .ref q4, .ref q5, .ref q6, .ref q7, .ref q8, .ref q9, .ref q10, .ref q11, .int 150, .int 0, .int 0, .int 0, .int 0, .int 0, .int 0])), (q3, .inr (11, [.ref q12, .ref q13, .ref q14, .int 0])), (q4, .inr (11, [.ref q15, .ref q16, .ref q17, .int 0])), (q5, .inl (cA37, 100, .inl (fun _ => 0))), (q6, .inr (8, [.ref q18, .int 0])), (q7, .inr (2, [.ref q19, .ref q20, .ref q21, .ref q22, .ref q23, .ref q24, .ref q25, .ref q26, .ref q27, .ref q28, .int 0, .int 0, .int 0])), (q8, .inr (3, [.ref q29, .ref q30, .ref q31, .ref q32, .ref q33, .ref q34, .int 0, .int 0, .int 0, .int 0, .int 0])), (q9, .inr (6, [.ref q35, .ref q36, .int 0, .int 0])), (q35, .inl (cA38, 40, .inl (fun _ => 0))), (q36, .inl (cA39, 40, .inl (fun _ => 0)))] H := hP
  have hD : va_D A [(h0, .inr (10, [.null, .null, .null, .null])), (q1, .inr (7, [.ref q3, .ref q4, .ref q5, .ref q6, .ref q7, .ref q8, .ref q9, .ref q10, .ref q11, .int 150, .int 0, .int 0, .int 0, .int 0, .int 0, .int 0])), (q3, .inr (11, [.ref q12, .ref q13, .ref q14, .int 0])), (q4, .inr (11, [.ref q15, .ref q16, .ref q17, .int 0])), (q5, .inl (cA37, 100, .inl (fun _ => 0))), (q6, .inr (8, [.ref q18, .int 0])), (q7, .inr (2, [.ref q19, .ref q20, .ref q21, .ref q22, .ref q23, .ref q24, .ref q25, .ref q26, .ref q27, .ref q28, .int 0, .int 0, .int 0])), (q8, .inr (3, [.ref q29, .ref q30, .ref q31, .ref q32, .ref q33, .ref q34, .int 0, .int 0, .int 0, .int 0, .int 0])), (q9, .inr (6, [.ref q35, .ref q36, .int 0, .int 0])), (q35, .inl (cA38, 40, .inl (fun _ => 0))), (q36, .inl (cA39, 40, .inl (fun _ => 0)))] := hD
  have hK : va_K (dC, dI) pcl [(cA37, .int), (cA38, .int), (cA39, .int)] s := hK
  refine W.widen (k := 35) (n := 6316) (Nat.le_of_ble_eq_true rfl) (Nat.le_of_ble_eq_true rfl) ?_
  refine va_putF (D := (dC, dI)) (ci := 10) (v := .ref q1) (ty := .object "WordFoundry$Machine") (C := RX9) (T := TX9) (N := 4) hx hb hts pinX9 tyX9 tyX9_ok nmX9 hown hK hP hD hS 0 rfl rfl 0 (by decide) (hts _ e100) (fun _ h9 => h9) rfl hin rfl (by decide +kernel) rfl rfl (Nat.le_of_ble_eq_true rfl) dX9_init_15 (fun H locs hP hD hS => ?_)
  have hP : va_P (dC, dI) pcl [(h0, .inr (10, [.ref q1, .null, .null, .null])), (q1, .inr (7, [.ref q3, .ref q4, .ref q5, .ref q6, .ref q7, .ref q8, .ref q9, .ref q10, .ref q11, .int 150, .int 0, .int 0, .int 0, .int 0, .int 0, .int 0])), (q3, .inr (11, [.ref q12, .ref q13, .ref q14, .int 0])), (q4, .inr (11, [.ref q15, .ref q16, .ref q17, .int 0])), (q5, .inl (cA37, 100, .inl (fun _ => 0))), (q6, .inr (8, [.ref q18, .int 0])), (q7, .inr (2, [.ref q19, .ref q20, .ref q21, .ref q22, .ref q23, .ref q24, .ref q25, .ref q26, .ref q27, .ref q28, .int 0, .int 0, .int 0])), (q8, .inr (3, [.ref q29, .ref q30, .ref q31, .ref q32, .ref q33, .ref q34, .int 0, .int 0, .int 0, .int 0, .int 0])), (q9, .inr (6, [.ref q35, .ref q36, .int 0, .int 0])), (q35, .inl (cA38, 40, .inl (fun _ => 0))), (q36, .inl (cA39, 40, .inl (fun _ => 0)))] H := hP
  have hD : va_D A [(h0, .inr (10, [.ref q1, .null, .null, .null])), (q1, .inr (7, [.ref q3, .ref q4, .ref q5, .ref q6, .ref q7, .ref q8, .ref q9, .ref q10, .ref q11, .int 150, .int 0, .int 0, .int 0, .int 0, .int 0, .int 0])), (q3, .inr (11, [.ref q12, .ref q13, .ref q14, .int 0])), (q4, .inr (11, [.ref q15, .ref q16, .ref q17, .int 0])), (q5, .inl (cA37, 100, .inl (fun _ => 0))), (q6, .inr (8, [.ref q18, .int 0])), (q7, .inr (2, [.ref q19, .ref q20, .ref q21, .ref q22, .ref q23, .ref q24, .ref q25, .ref q26, .ref q27, .ref q28, .int 0, .int 0, .int 0])), (q8, .inr (3, [.ref q29, .ref q30, .ref q31, .ref q32, .ref q33, .ref q34, .int 0, .int 0, .int 0, .int 0, .int 0])), (q9, .inr (6, [.ref q35, .ref q36, .int 0, .int 0])), (q35, .inl (cA38, 40, .inl (fun _ => 0))), (q36, .inl (cA39, 40, .inl (fun _ => 0)))] := hD
  refine lv_aload_n hx hb dX9_init_18 rfl (lv_at hl 0 rfl) ?_
  refine va_new (ci := 5) (fs := [.null, .null, .null, .null]) (C := RX4) (T := TX4) (N := 4) hx hb hts pinX4 tyX4 tyX4_ok hown (hts _ e101) (hts _ e102) (hts _ e103) hK hP hD hS hA rfl (fun j hj => by rcases (show j = 0 ∨ j = 1 ∨ j = 2 ∨ j = 3 by omega) with rfl | rfl | rfl | rfl <;> rfl) (Nat.le_of_ble_eq_true rfl) (Nat.le_of_ble_eq_true rfl) dX9_init_19 (fun q40 H hP hD hS => ?_)
  have hP : va_P (dC, dI) pcl [(h0, .inr (10, [.ref q1, .null, .null, .null])), (q1, .inr (7, [.ref q3, .ref q4, .ref q5, .ref q6, .ref q7, .ref q8, .ref q9, .ref q10, .ref q11, .int 150, .int 0, .int 0, .int 0, .int 0, .int 0, .int 0])), (q3, .inr (11, [.ref q12, .ref q13, .ref q14, .int 0])), (q4, .inr (11, [.ref q15, .ref q16, .ref q17, .int 0])), (q5, .inl (cA37, 100, .inl (fun _ => 0))), (q6, .inr (8, [.ref q18, .int 0])), (q7, .inr (2, [.ref q19, .ref q20, .ref q21, .ref q22, .ref q23, .ref q24, .ref q25, .ref q26, .ref q27, .ref q28, .int 0, .int 0, .int 0])), (q8, .inr (3, [.ref q29, .ref q30, .ref q31, .ref q32, .ref q33, .ref q34, .int 0, .int 0, .int 0, .int 0, .int 0])), (q9, .inr (6, [.ref q35, .ref q36, .int 0, .int 0])), (q35, .inl (cA38, 40, .inl (fun _ => 0))), (q36, .inl (cA39, 40, .inl (fun _ => 0))), (q40, .inr (5, [.null, .null, .null, .null]))] H := hP
  have hD : va_D A [(h0, .inr (10, [.ref q1, .null, .null, .null])), (q1, .inr (7, [.ref q3, .ref q4, .ref q5, .ref q6, .ref q7, .ref q8, .ref q9, .ref q10, .ref q11, .int 150, .int 0, .int 0, .int 0, .int 0, .int 0, .int 0])), (q3, .inr (11, [.ref q12, .ref q13, .ref q14, .int 0])), (q4, .inr (11, [.ref q15, .ref q16, .ref q17, .int 0])), (q5, .inl (cA37, 100, .inl (fun _ => 0))), (q6, .inr (8, [.ref q18, .int 0])), (q7, .inr (2, [.ref q19, .ref q20, .ref q21, .ref q22, .ref q23, .ref q24, .ref q25, .ref q26, .ref q27, .ref q28, .int 0, .int 0, .int 0])), (q8, .inr (3, [.ref q29, .ref q30, .ref q31, .ref q32, .ref q33, .ref q34, .int 0, .int 0, .int 0, .int 0, .int 0])), (q9, .inr (6, [.ref q35, .ref q36, .int 0, .int 0])), (q35, .inl (cA38, 40, .inl (fun _ => 0))), (q36, .inl (cA39, 40, .inl (fun _ => 0))), (q40, .inr (5, [.null, .null, .null, .null]))] := hD
  refine W.widen (k := 36) (n := 6320) (Nat.le_of_ble_eq_true rfl) (Nat.le_of_ble_eq_true rfl) ?_
  refine lv_dup hx hb dX9_init_22 rfl ?_
  refine lv_aload_n hx hb dX9_init_23 rfl (lv_at hl 0 rfl) ?_
  refine va_get (D := (dC, dI)) (ci := 10) (v := .ref q1) (C := RX9) (T := TX9) (N := 4) hx hb hts pinX9 hown hK hP 0 rfl rfl 0 (by decide) (hts _ e100) (fun _ h9 => h9) rfl dX9_init_24 ?_
  have hPc := hP.sub (ws' := [(q40, .inr (5, [.null, .null, .null, .null]))]) [11] rfl
  have hDc := hD.sub (ws' := [(q40, .inr (5, [.null, .null, .null, .null]))]) [11] (by decide) rfl
  have hKc := hK.sub (tys' := []) [] rfl
  have hFc := va_free (wc := [(q40, .inr (5, [.null, .null, .null, .null]))]) hD hS hA [11] rfl
  refine va_callv (va_runIN (As := [.ref q1]) (rest := [.ref q40, .ref h0]) ⟨hx, hb, hml, hown, hts⟩ (c_X4_init l dC dI z q40 q1 H.size) ⟨va_cnB 1 hts (ws_good e105) rfl rfl rfl (hN _ n9) (hts _ e103) ⟨by decide +kernel, by decide +kernel, by decide +kernel⟩ ⟨Nat.le_of_ble_eq_true rfl, Nat.le_of_ble_eq_true rfl⟩, rfl, (hts _ e104)⟩ ⟨pPre_blind, fun U hU hW => ⟨rfl, pPre_at hPc hKc hDc hE hS hFc U hU hW⟩⟩ rfl rfl hl.1 rfl (lv_room (Nat.le_of_ble_eq_true rfl)) dX9_init_27 ⟨Nat.le_of_ble_eq_true rfl, Nat.le_of_ble_eq_true rfl⟩) hS (fun q _ h => hFc q h) hFc (fun u t H1 locs ht hvm hw hB hz1 hk1 hS => ?_)
  obtain ⟨q42, q43, q44, hP1, hK1, hD1⟩ := hB
  rw [ht] at hP1
  have hK1 := va_K.moved hvm.symm hK1
  obtain ⟨hP, hD⟩ := va_join (wr := [(h0, .inr (10, [.ref q1, .null, .null, .null])), (q1, .inr (7, [.ref q3, .ref q4, .ref q5, .ref q6, .ref q7, .ref q8, .ref q9, .ref q10, .ref q11, .int 150, .int 0, .int 0, .int 0, .int 0, .int 0, .int 0])), (q3, .inr (11, [.ref q12, .ref q13, .ref q14, .int 0])), (q4, .inr (11, [.ref q15, .ref q16, .ref q17, .int 0])), (q5, .inl (cA37, 100, .inl (fun _ => 0))), (q6, .inr (8, [.ref q18, .int 0])), (q7, .inr (2, [.ref q19, .ref q20, .ref q21, .ref q22, .ref q23, .ref q24, .ref q25, .ref q26, .ref q27, .ref q28, .int 0, .int 0, .int 0])), (q8, .inr (3, [.ref q29, .ref q30, .ref q31, .ref q32, .ref q33, .ref q34, .int 0, .int 0, .int 0, .int 0, .int 0])), (q9, .inr (6, [.ref q35, .ref q36, .int 0, .int 0])), (q35, .inl (cA38, 40, .inl (fun _ => 0))), (q36, .inl (cA39, 40, .inl (fun _ => 0)))]) (w1 := [(q40, .inr (5, [.ref q1, .ref q42, .ref q43, .ref q44]))]) hP hD [11] [0, 1, 2, 3, 4, 5, 6, 7, 8, 9, 10] rfl rfl (by decide) (by decide) hk1 hFc hP1 hD1
  have hK := hK.app hK1
  generalize H1 = H at hP hS ⊢
  have hP : va_P (dC, dI) pcl [(h0, .inr (10, [.ref q1, .null, .null, .null])), (q1, .inr (7, [.ref q3, .ref q4, .ref q5, .ref q6, .ref q7, .ref q8, .ref q9, .ref q10, .ref q11, .int 150, .int 0, .int 0, .int 0, .int 0, .int 0, .int 0])), (q3, .inr (11, [.ref q12, .ref q13, .ref q14, .int 0])), (q4, .inr (11, [.ref q15, .ref q16, .ref q17, .int 0])), (q5, .inl (cA37, 100, .inl (fun _ => 0))), (q6, .inr (8, [.ref q18, .int 0])), (q7, .inr (2, [.ref q19, .ref q20, .ref q21, .ref q22, .ref q23, .ref q24, .ref q25, .ref q26, .ref q27, .ref q28, .int 0, .int 0, .int 0])), (q8, .inr (3, [.ref q29, .ref q30, .ref q31, .ref q32, .ref q33, .ref q34, .int 0, .int 0, .int 0, .int 0, .int 0])), (q9, .inr (6, [.ref q35, .ref q36, .int 0, .int 0])), (q35, .inl (cA38, 40, .inl (fun _ => 0))), (q36, .inl (cA39, 40, .inl (fun _ => 0))), (q40, .inr (5, [.ref q1, .ref q42, .ref q43, .ref q44]))] H := hP
  have hD : va_D A [(h0, .inr (10, [.ref q1, .null, .null, .null])), (q1, .inr (7, [.ref q3, .ref q4, .ref q5, .ref q6, .ref q7, .ref q8, .ref q9, .ref q10, .ref q11, .int 150, .int 0, .int 0, .int 0, .int 0, .int 0, .int 0])), (q3, .inr (11, [.ref q12, .ref q13, .ref q14, .int 0])), (q4, .inr (11, [.ref q15, .ref q16, .ref q17, .int 0])), (q5, .inl (cA37, 100, .inl (fun _ => 0))), (q6, .inr (8, [.ref q18, .int 0])), (q7, .inr (2, [.ref q19, .ref q20, .ref q21, .ref q22, .ref q23, .ref q24, .ref q25, .ref q26, .ref q27, .ref q28, .int 0, .int 0, .int 0])), (q8, .inr (3, [.ref q29, .ref q30, .ref q31, .ref q32, .ref q33, .ref q34, .int 0, .int 0, .int 0, .int 0, .int 0])), (q9, .inr (6, [.ref q35, .ref q36, .int 0, .int 0])), (q35, .inl (cA38, 40, .inl (fun _ => 0))), (q36, .inl (cA39, 40, .inl (fun _ => 0))), (q40, .inr (5, [.ref q1, .ref q42, .ref q43, .ref q44]))] := hD
  have hK : va_K (dC, dI) pcl [(cA37, .int), (cA38, .int), (cA39, .int)] s := hK
  refine W.widen (k := 39) (n := 6411) (Nat.le_of_ble_eq_true rfl) (Nat.le_of_ble_eq_true rfl) ?_
  refine va_putF (D := (dC, dI)) (ci := 10) (v := .ref q40) (ty := .object "WordFoundry$FrameRunner") (C := RX9) (T := TX9) (N := 4) hx hb hts pinX9 tyX9 tyX9_ok nmX9 hown hK hP hD hS 0 rfl rfl 1 (by decide) (hts _ e106) (fun _ h9 => h9) rfl hin rfl (by decide +kernel) rfl rfl (Nat.le_of_ble_eq_true rfl) dX9_init_30 (fun H locs hP hD hS => ?_)
  have hP : va_P (dC, dI) pcl [(h0, .inr (10, [.ref q1, .ref q40, .null, .null])), (q1, .inr (7, [.ref q3, .ref q4, .ref q5, .ref q6, .ref q7, .ref q8, .ref q9, .ref q10, .ref q11, .int 150, .int 0, .int 0, .int 0, .int 0, .int 0, .int 0])), (q3, .inr (11, [.ref q12, .ref q13, .ref q14, .int 0])), (q4, .inr (11, [.ref q15, .ref q16, .ref q17, .int 0])), (q5, .inl (cA37, 100, .inl (fun _ => 0))), (q6, .inr (8, [.ref q18, .int 0])), (q7, .inr (2, [.ref q19, .ref q20, .ref q21, .ref q22, .ref q23, .ref q24, .ref q25, .ref q26, .ref q27, .ref q28, .int 0, .int 0, .int 0])), (q8, .inr (3, [.ref q29, .ref q30, .ref q31, .ref q32, .ref q33, .ref q34, .int 0, .int 0, .int 0, .int 0, .int 0])), (q9, .inr (6, [.ref q35, .ref q36, .int 0, .int 0])), (q35, .inl (cA38, 40, .inl (fun _ => 0))), (q36, .inl (cA39, 40, .inl (fun _ => 0))), (q40, .inr (5, [.ref q1, .ref q42, .ref q43, .ref q44]))] H := hP
  have hD : va_D A [(h0, .inr (10, [.ref q1, .ref q40, .null, .null])), (q1, .inr (7, [.ref q3, .ref q4, .ref q5, .ref q6, .ref q7, .ref q8, .ref q9, .ref q10, .ref q11, .int 150, .int 0, .int 0, .int 0, .int 0, .int 0, .int 0])), (q3, .inr (11, [.ref q12, .ref q13, .ref q14, .int 0])), (q4, .inr (11, [.ref q15, .ref q16, .ref q17, .int 0])), (q5, .inl (cA37, 100, .inl (fun _ => 0))), (q6, .inr (8, [.ref q18, .int 0])), (q7, .inr (2, [.ref q19, .ref q20, .ref q21, .ref q22, .ref q23, .ref q24, .ref q25, .ref q26, .ref q27, .ref q28, .int 0, .int 0, .int 0])), (q8, .inr (3, [.ref q29, .ref q30, .ref q31, .ref q32, .ref q33, .ref q34, .int 0, .int 0, .int 0, .int 0, .int 0])), (q9, .inr (6, [.ref q35, .ref q36, .int 0, .int 0])), (q35, .inl (cA38, 40, .inl (fun _ => 0))), (q36, .inl (cA39, 40, .inl (fun _ => 0))), (q40, .inr (5, [.ref q1, .ref q42, .ref q43, .ref q44]))] := hD
  refine lv_aload_n hx hb dX9_init_33 rfl (lv_at hl 0 rfl) ?_
  refine va_new (ci := 7) (fs := [.null, .null, .null, .null, .null, .null, .null, .null, .null, .int 0, .int 0, .int 0, .int 0, .int 0, .int 0, .int 0]) (C := RX6) (T := TX6) (N := 16) hx hb hts pinX6 tyX6 tyX6_ok hown (hts _ e95) (hts _ e96) (hts _ e97) hK hP hD hS hA rfl (fun j hj => by rcases (show j = 0 ∨ j = 1 ∨ j = 2 ∨ j = 3 ∨ j = 4 ∨ j = 5 ∨ j = 6 ∨ j = 7 ∨ j = 8 ∨ j = 9 ∨ j = 10 ∨ j = 11 ∨ j = 12 ∨ j = 13 ∨ j = 14 ∨ j = 15 by omega) with rfl | rfl | rfl | rfl | rfl | rfl | rfl | rfl | rfl | rfl | rfl | rfl | rfl | rfl | rfl | rfl <;> rfl) (Nat.le_of_ble_eq_true rfl) (Nat.le_of_ble_eq_true rfl) dX9_init_34 (fun q45 H hP hD hS => ?_)
  have hP : va_P (dC, dI) pcl [(h0, .inr (10, [.ref q1, .ref q40, .null, .null])), (q1, .inr (7, [.ref q3, .ref q4, .ref q5, .ref q6, .ref q7, .ref q8, .ref q9, .ref q10, .ref q11, .int 150, .int 0, .int 0, .int 0, .int 0, .int 0, .int 0])), (q3, .inr (11, [.ref q12, .ref q13, .ref q14, .int 0])), (q4, .inr (11, [.ref q15, .ref q16, .ref q17, .int 0])), (q5, .inl (cA37, 100, .inl (fun _ => 0))), (q6, .inr (8, [.ref q18, .int 0])), (q7, .inr (2, [.ref q19, .ref q20, .ref q21, .ref q22, .ref q23, .ref q24, .ref q25, .ref q26, .ref q27, .ref q28, .int 0, .int 0, .int 0])), (q8, .inr (3, [.ref q29, .ref q30, .ref q31, .ref q32, .ref q33, .ref q34, .int 0, .int 0, .int 0, .int 0, .int 0])), (q9, .inr (6, [.ref q35, .ref q36, .int 0, .int 0])), (q35, .inl (cA38, 40, .inl (fun _ => 0))), (q36, .inl (cA39, 40, .inl (fun _ => 0))), (q40, .inr (5, [.ref q1, .ref q42, .ref q43, .ref q44])), (q45, .inr (7, [.null, .null, .null, .null, .null, .null, .null, .null, .null, .int 0, .int 0, .int 0, .int 0, .int 0, .int 0, .int 0]))] H := hP
  have hD : va_D A [(h0, .inr (10, [.ref q1, .ref q40, .null, .null])), (q1, .inr (7, [.ref q3, .ref q4, .ref q5, .ref q6, .ref q7, .ref q8, .ref q9, .ref q10, .ref q11, .int 150, .int 0, .int 0, .int 0, .int 0, .int 0, .int 0])), (q3, .inr (11, [.ref q12, .ref q13, .ref q14, .int 0])), (q4, .inr (11, [.ref q15, .ref q16, .ref q17, .int 0])), (q5, .inl (cA37, 100, .inl (fun _ => 0))), (q6, .inr (8, [.ref q18, .int 0])), (q7, .inr (2, [.ref q19, .ref q20, .ref q21, .ref q22, .ref q23, .ref q24, .ref q25, .ref q26, .ref q27, .ref q28, .int 0, .int 0, .int 0])), (q8, .inr (3, [.ref q29, .ref q30, .ref q31, .ref q32, .ref q33, .ref q34, .int 0, .int 0, .int 0, .int 0, .int 0])), (q9, .inr (6, [.ref q35, .ref q36, .int 0, .int 0])), (q35, .inl (cA38, 40, .inl (fun _ => 0))), (q36, .inl (cA39, 40, .inl (fun _ => 0))), (q40, .inr (5, [.ref q1, .ref q42, .ref q43, .ref q44])), (q45, .inr (7, [.null, .null, .null, .null, .null, .null, .null, .null, .null, .int 0, .int 0, .int 0, .int 0, .int 0, .int 0, .int 0]))] := hD
  refine W.widen (k := 40) (n := 6427) (Nat.le_of_ble_eq_true rfl) (Nat.le_of_ble_eq_true rfl) ?_
  refine lv_dup hx hb dX9_init_37 rfl ?_
  refine lv_sipush (v := 150) hx hb dX9_init_38 (by decide) ?_
  have hPc := hP.sub (ws' := [(q45, .inr (7, [.null, .null, .null, .null, .null, .null, .null, .null, .null, .int 0, .int 0, .int 0, .int 0, .int 0, .int 0, .int 0]))]) [12] rfl
  have hDc := hD.sub (ws' := [(q45, .inr (7, [.null, .null, .null, .null, .null, .null, .null, .null, .null, .int 0, .int 0, .int 0, .int 0, .int 0, .int 0, .int 0]))]) [12] (by decide) rfl
  have hKc := hK.sub (tys' := []) [] rfl
  have hFc := va_free (wc := [(q45, .inr (7, [.null, .null, .null, .null, .null, .null, .null, .null, .null, .int 0, .int 0, .int 0, .int 0, .int 0, .int 0, .int 0]))]) hD hS hA [12] rfl
  refine va_callv (va_runIN (As := [.int 150]) (rest := [.ref q45, .ref h0]) ⟨hx, hb, hml, hown, hts⟩ (c_X6_init l dC dI z q45 150 H.size) ⟨va_cnB 1 hts (ws_good e99) rfl rfl rfl (hN _ n8) (hts _ e97) ⟨by decide +kernel, by decide +kernel, by decide +kernel⟩ ⟨Nat.le_of_ble_eq_true rfl, Nat.le_of_ble_eq_true rfl⟩, rfl, (hts _ e98)⟩ ⟨pPre_blind, fun U hU hW => ⟨rfl, pPre_at hPc hKc hDc hE hS hFc U hU hW⟩⟩ rfl rfl hl.1 rfl (lv_room (Nat.le_of_ble_eq_true rfl)) dX9_init_41 ⟨Nat.le_of_ble_eq_true rfl, Nat.le_of_ble_eq_true rfl⟩) hS (fun q _ h => hFc q h) hFc (fun u t H1 locs ht hvm hw hB hz1 hk1 hS => ?_)
  obtain ⟨q47, q48, q49, q50, q51, q52, q53, q54, q55, q56, q57, q58, q59, q60, q61, q62, q63, q64, q65, q66, q67, q68, q69, q70, q71, q72, q73, q74, q75, q76, q77, q78, q79, q80, cA81, cA82, cA83, hP1, hK1, hD1⟩ := hB
  rw [ht] at hP1
  have hK1 := va_K.moved hvm.symm hK1
  obtain ⟨hP, hD⟩ := va_join (wr := [(h0, .inr (10, [.ref q1, .ref q40, .null, .null])), (q1, .inr (7, [.ref q3, .ref q4, .ref q5, .ref q6, .ref q7, .ref q8, .ref q9, .ref q10, .ref q11, .int 150, .int 0, .int 0, .int 0, .int 0, .int 0, .int 0])), (q3, .inr (11, [.ref q12, .ref q13, .ref q14, .int 0])), (q4, .inr (11, [.ref q15, .ref q16, .ref q17, .int 0])), (q5, .inl (cA37, 100, .inl (fun _ => 0))), (q6, .inr (8, [.ref q18, .int 0])), (q7, .inr (2, [.ref q19, .ref q20, .ref q21, .ref q22, .ref q23, .ref q24, .ref q25, .ref q26, .ref q27, .ref q28, .int 0, .int 0, .int 0])), (q8, .inr (3, [.ref q29, .ref q30, .ref q31, .ref q32, .ref q33, .ref q34, .int 0, .int 0, .int 0, .int 0, .int 0])), (q9, .inr (6, [.ref q35, .ref q36, .int 0, .int 0])), (q35, .inl (cA38, 40, .inl (fun _ => 0))), (q36, .inl (cA39, 40, .inl (fun _ => 0))), (q40, .inr (5, [.ref q1, .ref q42, .ref q43, .ref q44]))]) (w1 := [(q45, .inr (7, [.ref q47, .ref q48, .ref q49, .ref q50, .ref q51, .ref q52, .ref q53, .ref q54, .ref q55, .int 150, .int 0, .int 0, .int 0, .int 0, .int 0, .int 0])), (q47, .inr (11, [.ref q56, .ref q57, .ref q58, .int 0])), (q48, .inr (11, [.ref q59, .ref q60, .ref q61, .int 0])), (q49, .inl (cA81, 100, .inl (fun _ => 0))), (q50, .inr (8, [.ref q62, .int 0])), (q51, .inr (2, [.ref q63, .ref q64, .ref q65, .ref q66, .ref q67, .ref q68, .ref q69, .ref q70, .ref q71, .ref q72, .int 0, .int 0, .int 0])), (q52, .inr (3, [.ref q73, .ref q74, .ref q75, .ref q76, .ref q77, .ref q78, .int 0, .int 0, .int 0, .int 0, .int 0])), (q53, .inr (6, [.ref q79, .ref q80, .int 0, .int 0])), (q79, .inl (cA82, 40, .inl (fun _ => 0))), (q80, .inl (cA83, 40, .inl (fun _ => 0)))]) hP hD [12] [0, 1, 2, 3, 4, 5, 6, 7, 8, 9, 10, 11] rfl rfl (by decide) (by decide) hk1 hFc hP1 hD1
  have hK := hK.app hK1
  generalize H1 = H at hP hS ⊢
  have hP : va_P (dC, dI) pcl [(h0, .inr (10, [.ref q1, .ref q40, .null, .null])), (q1, .inr (7, [.ref q3, .ref q4, .ref q5, .ref q6, .ref q7, .ref q8, .ref q9, .ref q10, .ref q11, .int 150, .int 0, .int 0, .int 0, .int 0, .int 0, .int 0])), (q3, .inr (11, [.ref q12, .ref q13, .ref q14, .int 0])), (q4, .inr (11, [.ref q15, .ref q16, .ref q17, .int 0])), (q5, .inl (cA37, 100, .inl (fun _ => 0))), (q6, .inr (8, [.ref q18, .int 0])), (q7, .inr (2, [.ref q19, .ref q20, .ref q21, .ref q22, .ref q23, .ref q24, .ref q25, .ref q26, .ref q27, .ref q28, .int 0, .int 0, .int 0])), (q8, .inr (3, [.ref q29, .ref q30, .ref q31, .ref q32, .ref q33, .ref q34, .int 0, .int 0, .int 0, .int 0, .int 0])), (q9, .inr (6, [.ref q35, .ref q36, .int 0, .int 0])), (q35, .inl (cA38, 40, .inl (fun _ => 0))), (q36, .inl (cA39, 40, .inl (fun _ => 0))), (q40, .inr (5, [.ref q1, .ref q42, .ref q43, .ref q44])), (q45, .inr (7, [.ref q47, .ref q48, .ref q49, .ref q50, .ref q51, .ref q52, .ref q53, .ref q54, .ref q55, .int 150, .int 0, .int 0, .int 0, .int 0, .int 0, .int 0])), (q47, .inr (11, [.ref q56, .ref q57, .ref q58, .int 0])), (q48, .inr (11, [.ref q59, .ref q60, .ref q61, .int 0])), (q49, .inl (cA81, 100, .inl (fun _ => 0))), (q50, .inr (8, [.ref q62, .int 0])), (q51, .inr (2, [.ref q63, .ref q64, .ref q65, .ref q66, .ref q67, .ref q68, .ref q69, .ref q70, .ref q71, .ref q72, .int 0, .int 0, .int 0])), (q52, .inr (3, [.ref q73, .ref q74, .ref q75, .ref q76, .ref q77, .ref q78, .int 0, .int 0, .int 0, .int 0, .int 0])), (q53, .inr (6, [.ref q79, .ref q80, .int 0, .int 0])), (q79, .inl (cA82, 40, .inl (fun _ => 0))), (q80, .inl (cA83, 40, .inl (fun _ => 0)))] H := hP
  have hD : va_D A [(h0, .inr (10, [.ref q1, .ref q40, .null, .null])), (q1, .inr (7, [.ref q3, .ref q4, .ref q5, .ref q6, .ref q7, .ref q8, .ref q9, .ref q10, .ref q11, .int 150, .int 0, .int 0, .int 0, .int 0, .int 0, .int 0])), (q3, .inr (11, [.ref q12, .ref q13, .ref q14, .int 0])), (q4, .inr (11, [.ref q15, .ref q16, .ref q17, .int 0])), (q5, .inl (cA37, 100, .inl (fun _ => 0))), (q6, .inr (8, [.ref q18, .int 0])), (q7, .inr (2, [.ref q19, .ref q20, .ref q21, .ref q22, .ref q23, .ref q24, .ref q25, .ref q26, .ref q27, .ref q28, .int 0, .int 0, .int 0])), (q8, .inr (3, [.ref q29, .ref q30, .ref q31, .ref q32, .ref q33, .ref q34, .int 0, .int 0, .int 0, .int 0, .int 0])), (q9, .inr (6, [.ref q35, .ref q36, .int 0, .int 0])), (q35, .inl (cA38, 40, .inl (fun _ => 0))), (q36, .inl (cA39, 40, .inl (fun _ => 0))), (q40, .inr (5, [.ref q1, .ref q42, .ref q43, .ref q44])), (q45, .inr (7, [.ref q47, .ref q48, .ref q49, .ref q50, .ref q51, .ref q52, .ref q53, .ref q54, .ref q55, .int 150, .int 0, .int 0, .int 0, .int 0, .int 0, .int 0])), (q47, .inr (11, [.ref q56, .ref q57, .ref q58, .int 0])), (q48, .inr (11, [.ref q59, .ref q60, .ref q61, .int 0])), (q49, .inl (cA81, 100, .inl (fun _ => 0))), (q50, .inr (8, [.ref q62, .int 0])), (q51, .inr (2, [.ref q63, .ref q64, .ref q65, .ref q66, .ref q67, .ref q68, .ref q69, .ref q70, .ref q71, .ref q72, .int 0, .int 0, .int 0])), (q52, .inr (3, [.ref q73, .ref q74, .ref q75, .ref q76, .ref q77, .ref q78, .int 0, .int 0, .int 0, .int 0, .int 0])), (q53, .inr (6, [.ref q79, .ref q80, .int 0, .int 0])), (q79, .inl (cA82, 40, .inl (fun _ => 0))), (q80, .inl (cA83, 40, .inl (fun _ => 0)))] := hD
  have hK : va_K (dC, dI) pcl [(cA37, .int), (cA38, .int), (cA39, .int), (cA81, .int), (cA82, .int), (cA83, .int)] s := hK
  refine W.widen (k := 74) (n := 12727) (Nat.le_of_ble_eq_true rfl) (Nat.le_of_ble_eq_true rfl) ?_
  refine va_putF (D := (dC, dI)) (ci := 10) (v := .ref q45) (ty := .object "WordFoundry$Machine") (C := RX9) (T := TX9) (N := 4) hx hb hts pinX9 tyX9 tyX9_ok nmX9 hown hK hP hD hS 0 rfl rfl 2 (by decide) (hts _ e107) (fun _ h9 => h9) rfl hin rfl (by decide +kernel) rfl rfl (Nat.le_of_ble_eq_true rfl) dX9_init_44 (fun H locs hP hD hS => ?_)
  have hP : va_P (dC, dI) pcl [(h0, .inr (10, [.ref q1, .ref q40, .ref q45, .null])), (q1, .inr (7, [.ref q3, .ref q4, .ref q5, .ref q6, .ref q7, .ref q8, .ref q9, .ref q10, .ref q11, .int 150, .int 0, .int 0, .int 0, .int 0, .int 0, .int 0])), (q3, .inr (11, [.ref q12, .ref q13, .ref q14, .int 0])), (q4, .inr (11, [.ref q15, .ref q16, .ref q17, .int 0])), (q5, .inl (cA37, 100, .inl (fun _ => 0))), (q6, .inr (8, [.ref q18, .int 0])), (q7, .inr (2, [.ref q19, .ref q20, .ref q21, .ref q22, .ref q23, .ref q24, .ref q25, .ref q26, .ref q27, .ref q28, .int 0, .int 0, .int 0])), (q8, .inr (3, [.ref q29, .ref q30, .ref q31, .ref q32, .ref q33, .ref q34, .int 0, .int 0, .int 0, .int 0, .int 0])), (q9, .inr (6, [.ref q35, .ref q36, .int 0, .int 0])), (q35, .inl (cA38, 40, .inl (fun _ => 0))), (q36, .inl (cA39, 40, .inl (fun _ => 0))), (q40, .inr (5, [.ref q1, .ref q42, .ref q43, .ref q44])), (q45, .inr (7, [.ref q47, .ref q48, .ref q49, .ref q50, .ref q51, .ref q52, .ref q53, .ref q54, .ref q55, .int 150, .int 0, .int 0, .int 0, .int 0, .int 0, .int 0])), (q47, .inr (11, [.ref q56, .ref q57, .ref q58, .int 0])), (q48, .inr (11, [.ref q59, .ref q60, .ref q61, .int 0])), (q49, .inl (cA81, 100, .inl (fun _ => 0))), (q50, .inr (8, [.ref q62, .int 0])), (q51, .inr (2, [.ref q63, .ref q64, .ref q65, .ref q66, .ref q67, .ref q68, .ref q69, .ref q70, .ref q71, .ref q72, .int 0, .int 0, .int 0])), (q52, .inr (3, [.ref q73, .ref q74, .ref q75, .ref q76, .ref q77, .ref q78, .int 0, .int 0, .int 0, .int 0, .int 0])), (q53, .inr (6, [.ref q79, .ref q80, .int 0, .int 0])), (q79, .inl (cA82, 40, .inl (fun _ => 0))), (q80, .inl (cA83, 40, .inl (fun _ => 0)))] H := hP
  have hD : va_D A [(h0, .inr (10, [.ref q1, .ref q40, .ref q45, .null])), (q1, .inr (7, [.ref q3, .ref q4, .ref q5, .ref q6, .ref q7, .ref q8, .ref q9, .ref q10, .ref q11, .int 150, .int 0, .int 0, .int 0, .int 0, .int 0, .int 0])), (q3, .inr (11, [.ref q12, .ref q13, .ref q14, .int 0])), (q4, .inr (11, [.ref q15, .ref q16, .ref q17, .int 0])), (q5, .inl (cA37, 100, .inl (fun _ => 0))), (q6, .inr (8, [.ref q18, .int 0])), (q7, .inr (2, [.ref q19, .ref q20, .ref q21, .ref q22, .ref q23, .ref q24, .ref q25, .ref q26, .ref q27, .ref q28, .int 0, .int 0, .int 0])), (q8, .inr (3, [.ref q29, .ref q30, .ref q31, .ref q32, .ref q33, .ref q34, .int 0, .int 0, .int 0, .int 0, .int 0])), (q9, .inr (6, [.ref q35, .ref q36, .int 0, .int 0])), (q35, .inl (cA38, 40, .inl (fun _ => 0))), (q36, .inl (cA39, 40, .inl (fun _ => 0))), (q40, .inr (5, [.ref q1, .ref q42, .ref q43, .ref q44])), (q45, .inr (7, [.ref q47, .ref q48, .ref q49, .ref q50, .ref q51, .ref q52, .ref q53, .ref q54, .ref q55, .int 150, .int 0, .int 0, .int 0, .int 0, .int 0, .int 0])), (q47, .inr (11, [.ref q56, .ref q57, .ref q58, .int 0])), (q48, .inr (11, [.ref q59, .ref q60, .ref q61, .int 0])), (q49, .inl (cA81, 100, .inl (fun _ => 0))), (q50, .inr (8, [.ref q62, .int 0])), (q51, .inr (2, [.ref q63, .ref q64, .ref q65, .ref q66, .ref q67, .ref q68, .ref q69, .ref q70, .ref q71, .ref q72, .int 0, .int 0, .int 0])), (q52, .inr (3, [.ref q73, .ref q74, .ref q75, .ref q76, .ref q77, .ref q78, .int 0, .int 0, .int 0, .int 0, .int 0])), (q53, .inr (6, [.ref q79, .ref q80, .int 0, .int 0])), (q79, .inl (cA82, 40, .inl (fun _ => 0))), (q80, .inl (cA83, 40, .inl (fun _ => 0)))] := hD
  refine lv_aload_n hx hb dX9_init_47 rfl (lv_at hl 0 rfl) ?_
  refine va_new (ci := 9) (fs := [.null]) (C := RX8) (T := TX8) (N := 1) hx hb hts pinX8 tyX8 tyX8_ok hown (hts _ e108) (hts _ e109) (hts _ e110) hK hP hD hS hA rfl (fun j hj => by rcases (show j = 0 by omega) with rfl <;> rfl) (Nat.le_of_ble_eq_true rfl) (Nat.le_of_ble_eq_true rfl) dX9_init_48 (fun q84 H hP hD hS => ?_)
  have hP : va_P (dC, dI) pcl [(h0, .inr (10, [.ref q1, .ref q40, .ref q45, .null])), (q1, .inr (7, [.ref q3, .ref q4, .ref q5, .ref q6, .ref q7, .ref q8, .ref q9, .ref q10, .ref q11, .int 150, .int 0, .int 0, .int 0, .int 0, .int 0, .int 0])), (q3, .inr (11, [.ref q12, .ref q13, .ref q14, .int 0])), (q4, .inr (11, [.ref q15, .ref q16, .ref q17, .int 0])), (q5, .inl (cA37, 100, .inl (fun _ => 0))), (q6, .inr (8, [.ref q18, .int 0])), (q7, .inr (2, [.ref q19, .ref q20, .ref q21, .ref q22, .ref q23, .ref q24, .ref q25, .ref q26, .ref q27, .ref q28, .int 0, .int 0, .int 0])), (q8, .inr (3, [.ref q29, .ref q30, .ref q31, .ref q32, .ref q33, .ref q34, .int 0, .int 0, .int 0, .int 0, .int 0])), (q9, .inr (6, [.ref q35, .ref q36, .int 0, .int 0])), (q35, .inl (cA38, 40, .inl (fun _ => 0))), (q36, .inl (cA39, 40, .inl (fun _ => 0))), (q40, .inr (5, [.ref q1, .ref q42, .ref q43, .ref q44])), (q45, .inr (7, [.ref q47, .ref q48, .ref q49, .ref q50, .ref q51, .ref q52, .ref q53, .ref q54, .ref q55, .int 150, .int 0, .int 0, .int 0, .int 0, .int 0, .int 0])), (q47, .inr (11, [.ref q56, .ref q57, .ref q58, .int 0])), (q48, .inr (11, [.ref q59, .ref q60, .ref q61, .int 0])), (q49, .inl (cA81, 100, .inl (fun _ => 0))), (q50, .inr (8, [.ref q62, .int 0])), (q51, .inr (2, [.ref q63, .ref q64, .ref q65, .ref q66, .ref q67, .ref q68, .ref q69, .ref q70, .ref q71, .ref q72, .int 0, .int 0, .int 0])), (q52, .inr (3, [.ref q73, .ref q74, .ref q75, .ref q76, .ref q77, .ref q78, .int 0, .int 0, .int 0, .int 0, .int 0])), (q53, .inr (6, [.ref q79, .ref q80, .int 0, .int 0])), (q79, .inl (cA82, 40, .inl (fun _ => 0))), (q80, .inl (cA83, 40, .inl (fun _ => 0))), (q84, .inr (9, [.null]))] H := hP
  have hD : va_D A [(h0, .inr (10, [.ref q1, .ref q40, .ref q45, .null])), (q1, .inr (7, [.ref q3, .ref q4, .ref q5, .ref q6, .ref q7, .ref q8, .ref q9, .ref q10, .ref q11, .int 150, .int 0, .int 0, .int 0, .int 0, .int 0, .int 0])), (q3, .inr (11, [.ref q12, .ref q13, .ref q14, .int 0])), (q4, .inr (11, [.ref q15, .ref q16, .ref q17, .int 0])), (q5, .inl (cA37, 100, .inl (fun _ => 0))), (q6, .inr (8, [.ref q18, .int 0])), (q7, .inr (2, [.ref q19, .ref q20, .ref q21, .ref q22, .ref q23, .ref q24, .ref q25, .ref q26, .ref q27, .ref q28, .int 0, .int 0, .int 0])), (q8, .inr (3, [.ref q29, .ref q30, .ref q31, .ref q32, .ref q33, .ref q34, .int 0, .int 0, .int 0, .int 0, .int 0])), (q9, .inr (6, [.ref q35, .ref q36, .int 0, .int 0])), (q35, .inl (cA38, 40, .inl (fun _ => 0))), (q36, .inl (cA39, 40, .inl (fun _ => 0))), (q40, .inr (5, [.ref q1, .ref q42, .ref q43, .ref q44])), (q45, .inr (7, [.ref q47, .ref q48, .ref q49, .ref q50, .ref q51, .ref q52, .ref q53, .ref q54, .ref q55, .int 150, .int 0, .int 0, .int 0, .int 0, .int 0, .int 0])), (q47, .inr (11, [.ref q56, .ref q57, .ref q58, .int 0])), (q48, .inr (11, [.ref q59, .ref q60, .ref q61, .int 0])), (q49, .inl (cA81, 100, .inl (fun _ => 0))), (q50, .inr (8, [.ref q62, .int 0])), (q51, .inr (2, [.ref q63, .ref q64, .ref q65, .ref q66, .ref q67, .ref q68, .ref q69, .ref q70, .ref q71, .ref q72, .int 0, .int 0, .int 0])), (q52, .inr (3, [.ref q73, .ref q74, .ref q75, .ref q76, .ref q77, .ref q78, .int 0, .int 0, .int 0, .int 0, .int 0])), (q53, .inr (6, [.ref q79, .ref q80, .int 0, .int 0])), (q79, .inl (cA82, 40, .inl (fun _ => 0))), (q80, .inl (cA83, 40, .inl (fun _ => 0))), (q84, .inr (9, [.null]))] := hD
  refine W.widen (k := 75) (n := 12728) (Nat.le_of_ble_eq_true rfl) (Nat.le_of_ble_eq_true rfl) ?_
  refine lv_dup hx hb dX9_init_51 rfl ?_
  refine lv_aload_n hx hb dX9_init_52 rfl (lv_at hl 0 rfl) ?_
  refine va_get (D := (dC, dI)) (ci := 10) (v := .ref q45) (C := RX9) (T := TX9) (N := 4) hx hb hts pinX9 hown hK hP 0 rfl rfl 2 (by decide) (hts _ e107) (fun _ h9 => h9) rfl dX9_init_53 ?_
  have hPc := hP.sub (ws' := [(q84, .inr (9, [.null]))]) [22] rfl
  have hDc := hD.sub (ws' := [(q84, .inr (9, [.null]))]) [22] (by decide) rfl
  have hKc := hK.sub (tys' := []) [] rfl
  have hFc := va_free (wc := [(q84, .inr (9, [.null]))]) hD hS hA [22] rfl
  refine va_callv (va_runIN (As := [.ref q45]) (rest := [.ref q84, .ref h0]) ⟨hx, hb, hml, hown, hts⟩ (c_X8_init l dC dI z q84 q45 H.size) ⟨va_cnB 1 hts (ws_good e112) rfl rfl rfl (hN _ n10) (hts _ e110) ⟨by decide +kernel, by decide +kernel, by decide +kernel⟩ ⟨Nat.le_of_ble_eq_true rfl, Nat.le_of_ble_eq_true rfl⟩, rfl, (hts _ e111)⟩ ⟨pPre_blind, fun U hU hW => ⟨rfl, pPre_at hPc hKc hDc hE hS hFc U hU hW⟩⟩ rfl rfl hl.1 rfl (lv_room (Nat.le_of_ble_eq_true rfl)) dX9_init_56 ⟨Nat.le_of_ble_eq_true rfl, Nat.le_of_ble_eq_true rfl⟩) hS (fun q _ h => hFc q h) hFc (fun u t H1 locs ht hvm hw hB hz1 hk1 hS => ?_)
  obtain ⟨hP1, hK1, hD1⟩ := hB
  rw [ht] at hP1
  have hK1 := va_K.moved hvm.symm hK1
  obtain ⟨hP, hD⟩ := va_join (wr := [(h0, .inr (10, [.ref q1, .ref q40, .ref q45, .null])), (q1, .inr (7, [.ref q3, .ref q4, .ref q5, .ref q6, .ref q7, .ref q8, .ref q9, .ref q10, .ref q11, .int 150, .int 0, .int 0, .int 0, .int 0, .int 0, .int 0])), (q3, .inr (11, [.ref q12, .ref q13, .ref q14, .int 0])), (q4, .inr (11, [.ref q15, .ref q16, .ref q17, .int 0])), (q5, .inl (cA37, 100, .inl (fun _ => 0))), (q6, .inr (8, [.ref q18, .int 0])), (q7, .inr (2, [.ref q19, .ref q20, .ref q21, .ref q22, .ref q23, .ref q24, .ref q25, .ref q26, .ref q27, .ref q28, .int 0, .int 0, .int 0])), (q8, .inr (3, [.ref q29, .ref q30, .ref q31, .ref q32, .ref q33, .ref q34, .int 0, .int 0, .int 0, .int 0, .int 0])), (q9, .inr (6, [.ref q35, .ref q36, .int 0, .int 0])), (q35, .inl (cA38, 40, .inl (fun _ => 0))), (q36, .inl (cA39, 40, .inl (fun _ => 0))), (q40, .inr (5, [.ref q1, .ref q42, .ref q43, .ref q44])), (q45, .inr (7, [.ref q47, .ref q48, .ref q49, .ref q50, .ref q51, .ref q52, .ref q53, .ref q54, .ref q55, .int 150, .int 0, .int 0, .int 0, .int 0, .int 0, .int 0])), (q47, .inr (11, [.ref q56, .ref q57, .ref q58, .int 0])), (q48, .inr (11, [.ref q59, .ref q60, .ref q61, .int 0])), (q49, .inl (cA81, 100, .inl (fun _ => 0))), (q50, .inr (8, [.ref q62, .int 0])), (q51, .inr (2, [.ref q63, .ref q64, .ref q65, .ref q66, .ref q67, .ref q68, .ref q69, .ref q70, .ref q71, .ref q72, .int 0, .int 0, .int 0])), (q52, .inr (3, [.ref q73, .ref q74, .ref q75, .ref q76, .ref q77, .ref q78, .int 0, .int 0, .int 0, .int 0, .int 0])), (q53, .inr (6, [.ref q79, .ref q80, .int 0, .int 0])), (q79, .inl (cA82, 40, .inl (fun _ => 0))), (q80, .inl (cA83, 40, .inl (fun _ => 0)))]) (w1 := [(q84, .inr (9, [.ref q45]))]) hP hD [22] [0, 1, 2, 3, 4, 5, 6, 7, 8, 9, 10, 11, 12, 13, 14, 15, 16, 17, 18, 19, 20, 21] rfl rfl (by decide) (by decide) hk1 hFc hP1 hD1
  have hK := hK.app hK1
  generalize H1 = H at hP hS ⊢
  have hP : va_P (dC, dI) pcl [(h0, .inr (10, [.ref q1, .ref q40, .ref q45, .null])), (q1, .inr (7, [.ref q3, .ref q4, .ref q5, .ref q6, .ref q7, .ref q8, .ref q9, .ref q10, .ref q11, .int 150, .int 0, .int 0, .int 0, .int 0, .int 0, .int 0])), (q3, .inr (11, [.ref q12, .ref q13, .ref q14, .int 0])), (q4, .inr (11, [.ref q15, .ref q16, .ref q17, .int 0])), (q5, .inl (cA37, 100, .inl (fun _ => 0))), (q6, .inr (8, [.ref q18, .int 0])), (q7, .inr (2, [.ref q19, .ref q20, .ref q21, .ref q22, .ref q23, .ref q24, .ref q25, .ref q26, .ref q27, .ref q28, .int 0, .int 0, .int 0])), (q8, .inr (3, [.ref q29, .ref q30, .ref q31, .ref q32, .ref q33, .ref q34, .int 0, .int 0, .int 0, .int 0, .int 0])), (q9, .inr (6, [.ref q35, .ref q36, .int 0, .int 0])), (q35, .inl (cA38, 40, .inl (fun _ => 0))), (q36, .inl (cA39, 40, .inl (fun _ => 0))), (q40, .inr (5, [.ref q1, .ref q42, .ref q43, .ref q44])), (q45, .inr (7, [.ref q47, .ref q48, .ref q49, .ref q50, .ref q51, .ref q52, .ref q53, .ref q54, .ref q55, .int 150, .int 0, .int 0, .int 0, .int 0, .int 0, .int 0])), (q47, .inr (11, [.ref q56, .ref q57, .ref q58, .int 0])), (q48, .inr (11, [.ref q59, .ref q60, .ref q61, .int 0])), (q49, .inl (cA81, 100, .inl (fun _ => 0))), (q50, .inr (8, [.ref q62, .int 0])), (q51, .inr (2, [.ref q63, .ref q64, .ref q65, .ref q66, .ref q67, .ref q68, .ref q69, .ref q70, .ref q71, .ref q72, .int 0, .int 0, .int 0])), (q52, .inr (3, [.ref q73, .ref q74, .ref q75, .ref q76, .ref q77, .ref q78, .int 0, .int 0, .int 0, .int 0, .int 0])), (q53, .inr (6, [.ref q79, .ref q80, .int 0, .int 0])), (q79, .inl (cA82, 40, .inl (fun _ => 0))), (q80, .inl (cA83, 40, .inl (fun _ => 0))), (q84, .inr (9, [.ref q45]))] H := hP
  have hD : va_D A [(h0, .inr (10, [.ref q1, .ref q40, .ref q45, .null])), (q1, .inr (7, [.ref q3, .ref q4, .ref q5, .ref q6, .ref q7, .ref q8, .ref q9, .ref q10, .ref q11, .int 150, .int 0, .int 0, .int 0, .int 0, .int 0, .int 0])), (q3, .inr (11, [.ref q12, .ref q13, .ref q14, .int 0])), (q4, .inr (11, [.ref q15, .ref q16, .ref q17, .int 0])), (q5, .inl (cA37, 100, .inl (fun _ => 0))), (q6, .inr (8, [.ref q18, .int 0])), (q7, .inr (2, [.ref q19, .ref q20, .ref q21, .ref q22, .ref q23, .ref q24, .ref q25, .ref q26, .ref q27, .ref q28, .int 0, .int 0, .int 0])), (q8, .inr (3, [.ref q29, .ref q30, .ref q31, .ref q32, .ref q33, .ref q34, .int 0, .int 0, .int 0, .int 0, .int 0])), (q9, .inr (6, [.ref q35, .ref q36, .int 0, .int 0])), (q35, .inl (cA38, 40, .inl (fun _ => 0))), (q36, .inl (cA39, 40, .inl (fun _ => 0))), (q40, .inr (5, [.ref q1, .ref q42, .ref q43, .ref q44])), (q45, .inr (7, [.ref q47, .ref q48, .ref q49, .ref q50, .ref q51, .ref q52, .ref q53, .ref q54, .ref q55, .int 150, .int 0, .int 0, .int 0, .int 0, .int 0, .int 0])), (q47, .inr (11, [.ref q56, .ref q57, .ref q58, .int 0])), (q48, .inr (11, [.ref q59, .ref q60, .ref q61, .int 0])), (q49, .inl (cA81, 100, .inl (fun _ => 0))), (q50, .inr (8, [.ref q62, .int 0])), (q51, .inr (2, [.ref q63, .ref q64, .ref q65, .ref q66, .ref q67, .ref q68, .ref q69, .ref q70, .ref q71, .ref q72, .int 0, .int 0, .int 0])), (q52, .inr (3, [.ref q73, .ref q74, .ref q75, .ref q76, .ref q77, .ref q78, .int 0, .int 0, .int 0, .int 0, .int 0])), (q53, .inr (6, [.ref q79, .ref q80, .int 0, .int 0])), (q79, .inl (cA82, 40, .inl (fun _ => 0))), (q80, .inl (cA83, 40, .inl (fun _ => 0))), (q84, .inr (9, [.ref q45]))] := hD
  have hK : va_K (dC, dI) pcl [(cA37, .int), (cA38, .int), (cA39, .int), (cA81, .int), (cA82, .int), (cA83, .int)] s := hK
  refine va_putF (D := (dC, dI)) (ci := 10) (v := .ref q84) (ty := .object "WordFoundry$RecursiveRunner") (C := RX9) (T := TX9) (N := 4) hx hb hts pinX9 tyX9 tyX9_ok nmX9 hown hK hP hD hS 0 rfl rfl 3 (by decide) (hts _ e113) (fun _ h9 => h9) rfl hin rfl (by decide +kernel) rfl rfl (Nat.le_of_ble_eq_true rfl) dX9_init_59 (fun H locs hP hD hS => ?_)
  have hP : va_P (dC, dI) pcl [(h0, .inr (10, [.ref q1, .ref q40, .ref q45, .ref q84])), (q1, .inr (7, [.ref q3, .ref q4, .ref q5, .ref q6, .ref q7, .ref q8, .ref q9, .ref q10, .ref q11, .int 150, .int 0, .int 0, .int 0, .int 0, .int 0, .int 0])), (q3, .inr (11, [.ref q12, .ref q13, .ref q14, .int 0])), (q4, .inr (11, [.ref q15, .ref q16, .ref q17, .int 0])), (q5, .inl (cA37, 100, .inl (fun _ => 0))), (q6, .inr (8, [.ref q18, .int 0])), (q7, .inr (2, [.ref q19, .ref q20, .ref q21, .ref q22, .ref q23, .ref q24, .ref q25, .ref q26, .ref q27, .ref q28, .int 0, .int 0, .int 0])), (q8, .inr (3, [.ref q29, .ref q30, .ref q31, .ref q32, .ref q33, .ref q34, .int 0, .int 0, .int 0, .int 0, .int 0])), (q9, .inr (6, [.ref q35, .ref q36, .int 0, .int 0])), (q35, .inl (cA38, 40, .inl (fun _ => 0))), (q36, .inl (cA39, 40, .inl (fun _ => 0))), (q40, .inr (5, [.ref q1, .ref q42, .ref q43, .ref q44])), (q45, .inr (7, [.ref q47, .ref q48, .ref q49, .ref q50, .ref q51, .ref q52, .ref q53, .ref q54, .ref q55, .int 150, .int 0, .int 0, .int 0, .int 0, .int 0, .int 0])), (q47, .inr (11, [.ref q56, .ref q57, .ref q58, .int 0])), (q48, .inr (11, [.ref q59, .ref q60, .ref q61, .int 0])), (q49, .inl (cA81, 100, .inl (fun _ => 0))), (q50, .inr (8, [.ref q62, .int 0])), (q51, .inr (2, [.ref q63, .ref q64, .ref q65, .ref q66, .ref q67, .ref q68, .ref q69, .ref q70, .ref q71, .ref q72, .int 0, .int 0, .int 0])), (q52, .inr (3, [.ref q73, .ref q74, .ref q75, .ref q76, .ref q77, .ref q78, .int 0, .int 0, .int 0, .int 0, .int 0])), (q53, .inr (6, [.ref q79, .ref q80, .int 0, .int 0])), (q79, .inl (cA82, 40, .inl (fun _ => 0))), (q80, .inl (cA83, 40, .inl (fun _ => 0))), (q84, .inr (9, [.ref q45]))] H := hP
  have hD : va_D A [(h0, .inr (10, [.ref q1, .ref q40, .ref q45, .ref q84])), (q1, .inr (7, [.ref q3, .ref q4, .ref q5, .ref q6, .ref q7, .ref q8, .ref q9, .ref q10, .ref q11, .int 150, .int 0, .int 0, .int 0, .int 0, .int 0, .int 0])), (q3, .inr (11, [.ref q12, .ref q13, .ref q14, .int 0])), (q4, .inr (11, [.ref q15, .ref q16, .ref q17, .int 0])), (q5, .inl (cA37, 100, .inl (fun _ => 0))), (q6, .inr (8, [.ref q18, .int 0])), (q7, .inr (2, [.ref q19, .ref q20, .ref q21, .ref q22, .ref q23, .ref q24, .ref q25, .ref q26, .ref q27, .ref q28, .int 0, .int 0, .int 0])), (q8, .inr (3, [.ref q29, .ref q30, .ref q31, .ref q32, .ref q33, .ref q34, .int 0, .int 0, .int 0, .int 0, .int 0])), (q9, .inr (6, [.ref q35, .ref q36, .int 0, .int 0])), (q35, .inl (cA38, 40, .inl (fun _ => 0))), (q36, .inl (cA39, 40, .inl (fun _ => 0))), (q40, .inr (5, [.ref q1, .ref q42, .ref q43, .ref q44])), (q45, .inr (7, [.ref q47, .ref q48, .ref q49, .ref q50, .ref q51, .ref q52, .ref q53, .ref q54, .ref q55, .int 150, .int 0, .int 0, .int 0, .int 0, .int 0, .int 0])), (q47, .inr (11, [.ref q56, .ref q57, .ref q58, .int 0])), (q48, .inr (11, [.ref q59, .ref q60, .ref q61, .int 0])), (q49, .inl (cA81, 100, .inl (fun _ => 0))), (q50, .inr (8, [.ref q62, .int 0])), (q51, .inr (2, [.ref q63, .ref q64, .ref q65, .ref q66, .ref q67, .ref q68, .ref q69, .ref q70, .ref q71, .ref q72, .int 0, .int 0, .int 0])), (q52, .inr (3, [.ref q73, .ref q74, .ref q75, .ref q76, .ref q77, .ref q78, .int 0, .int 0, .int 0, .int 0, .int 0])), (q53, .inr (6, [.ref q79, .ref q80, .int 0, .int 0])), (q79, .inl (cA82, 40, .inl (fun _ => 0))), (q80, .inl (cA83, 40, .inl (fun _ => 0))), (q84, .inr (9, [.ref q45]))] := hD
  have hP9 := hP.sub (ws' := [(h0, .inr (10, [.ref q1, .ref q40, .ref q45, .ref q84]))]) [0] rfl
  have hD9 := hD.sub (ws' := [(h0, .inr (10, [.ref q1, .ref q40, .ref q45, .ref q84]))]) [0] (by decide) rfl
  have hK9 := hK.sub (tys' := []) [] rfl
  refine W.widen (k := 75) (n := 12728) (Nat.le_of_ble_eq_true rfl) (Nat.le_of_ble_eq_true rfl) ?_
  exact W.vret hx hb hr (fun t ht hW => ⟨⟨(), rfl, trivial, q1, q40, q45, q84, by rw [ht]; exact hP9, va_K.moved hW.alike hK9, hD9⟩, hS.F ht⟩) hS.2.2 dX9_init_62
set_option maxHeartbeats 4000000 in
set_option maxRecDepth 100000 in
theorem c_X11_init (l : Launch) (dC : Nat → ClassId) (dI : Nat → Nat → Nat) (z : pG) (h0 : Nat) (sz : Nat) : Met l yX11_init (ws_ yX11_init cX11_init 1 none) ({ frames := 4, cells := 122, slots := 20159, locals := 73 }) (va_Pc [.ref h0] (pPre z dC dI [(h0, .inr (12, [.null, .null, .null, .null, .null, .int 0, .int 0, .int 0, .int 0, .long 0]))] [] sz)) (va_Qv (fun (_ : Unit) => True) (fun _ t => ∃ (ma : Nat) (rn : Nat) (ef : Nat) (ck : Nat) (tr : Nat) (v1 : Nat) (v2 : Nat) (v3 : Nat) (v4 : Nat) (fi : Nat) (se : Nat) (ce : Nat) (pr : Nat) (di : Nat) (dr : Nat) (li : Nat) (ru : Nat) (ba : Nat) (b1 : Nat) (b2 : Nat) (b3 : Nat) (b4 : Nat) (b5 : Nat) (b6 : Nat) (b7 : Nat) (g1 : Nat) (g2 : Nat) (g3 : Nat) (g4 : Nat) (g5 : Nat) (g6 : Nat) (g7 : Nat) (g8 : Nat) (g9 : Nat) (g10 : Nat) (k1 : Nat) (k2 : Nat) (k3 : Nat) (k4 : Nat) (k5 : Nat) (k6 : Nat) (so : Nat) (va : Nat) (cB : ClassId) (cC : ClassId) (cD : ClassId), pPost dC dI (va_A [(h0, .inr (12, [.null, .null, .null, .null, .null, .int 0, .int 0, .int 0, .int 0, .long 0]))] sz) [(h0, .inr (12, [.ref ma, .ref rn, .ref ef, .ref ck, .ref tr, .int 0, .int 0, .int 0, .int 0, .long 0])), (ef, .inr (4, [.ref di, .ref v1, .ref v2, .ref v3, .ref v4, .int 0, .int 0, .int 0, .int 0])), (ma, .inr (7, [.ref fi, .ref se, .ref ce, .ref pr, .ref di, .ref dr, .ref li, .ref ru, .ref ba, .int 1000, .int 0, .int 0, .int 0, .int 0, .int 0, .int 0])), (fi, .inr (11, [.ref b1, .ref b2, .ref b3, .int 0])), (se, .inr (11, [.ref b4, .ref b5, .ref b6, .int 0])), (ce, .inl (cB, 100, .inl (fun _ => 0))), (pr, .inr (8, [.ref b7, .int 0])), (di, .inr (2, [.ref g1, .ref g2, .ref g3, .ref g4, .ref g5, .ref g6, .ref g7, .ref g8, .ref g9, .ref g10, .int 0, .int 0, .int 0])), (dr, .inr (3, [.ref k1, .ref k2, .ref k3, .ref k4, .ref k5, .ref k6, .int 0, .int 0, .int 0, .int 0, .int 0])), (li, .inr (6, [.ref so, .ref va, .int 0, .int 0])), (so, .inl (cC, 40, .inl (fun _ => 0))), (va, .inl (cD, 40, .inl (fun _ => 0)))] [(cB, .int), (cC, .int), (cD, .int)] t) (va_A [(h0, .inr (12, [.null, .null, .null, .null, .null, .int 0, .int 0, .int 0, .int 0, .long 0]))] sz)) 122 20159 (va_A [(h0, .inr (12, [.null, .null, .null, .null, .null, .int 0, .int 0, .int 0, .int 0, .long 0]))] sz) := by
  refine Met.ofW (cc := cX11_init) (maxL := 1) (ret := none) (by decide) rfl ?_
  intro p e s m args below meth c s₁ B hml hv
  obtain ⟨rfl, hsz, hP, hK, hD0, hE⟩ := hv
  have hx := B.exec
  have hb := B.bytes
  have hr := B.returns
  have hts0 := atoms_spec (ws := ws_ yX11_init cX11_init 1 none) B.pre
  have hts := fun (w : Cond) (h : w ∈ pw) => hts0 w (List.mem_cons_of_mem _ h)
  have hown : s.vm.findClass RX11 = some m.cls := findClass_of_methodNamed B.named
  have hlocks := B.notSynchronized
  have hin : meth.name = "<init>" := (name_of_methodNamed B.named B.method).1
  subst hsz
  have hD := hD0.self (sz := s.heap.size)
  generalize hAe : va_A [(h0, .inr (12, [.null, .null, .null, .null, .null, .int 0, .int 0, .int 0, .int 0, .long 0]))] s.heap.size = A at hD hE ⊢
  have hA : ∀ q : Nat, s.heap.size ≤ q → A q := fun q h => by rw [← hAe]; exact Or.inr h
  have hS : va_S A s.heap s.heap [] := va_S.rf
  have hN := hE.1
  have hP : va_P (dC, dI) pcl [(h0, .inr (12, [.null, .null, .null, .null, .null, .int 0, .int 0, .int 0, .int 0, .long 0]))] s.heap := hP
  have hl := lv_entry ([.ref h0]) (n := 1) (Nat.le_of_ble_eq_true rfl)
  rw [lg_entry_eq]
  generalize (lg_sl ([.ref h0]) ++ List.replicate (1 - (lg_sl ([.ref h0])).length) Slot.unset).toArray = ls at hl ⊢
  have hl : lv_has ls 1 [(0, .ref h0)] := hl
  obtain ⟨H, hH0⟩ : ∃ H, H = s.heap := ⟨_, rfl⟩
  rw [← hH0] at hP ⊢
  have hS : va_S A s.heap H [] := by rw [hH0]; exact hS
  refine lv_aload_n hx hb dX11_init_0 rfl (lv_at hl 0 rfl) ?_
  refine W.objInit hx hb hown (hts _ e118) (hts _ e1) (hts _ e2) rfl (by rw [hml]; exact hl.1) rfl dX11_init_1 (Nat.le_of_ble_eq_true rfl) (Nat.le_of_ble_eq_true rfl) ?_
  refine W.eq (g2 := F0 m 4 ls []) rfl ?_
  refine lv_aload_n hx hb dX11_init_4 rfl (lv_at hl 0 rfl) ?_
  refine va_new (ci := 7) (fs := [.null, .null, .null, .null, .null, .null, .null, .null, .null, .int 0, .int 0, .int 0, .int 0, .int 0, .int 0, .int 0]) (C := RX6) (T := TX6) (N := 16) hx hb hts pinX6 tyX6 tyX6_ok hown (hts _ e119) (hts _ e96) (hts _ e97) hK hP hD hS hA rfl (fun j hj => by rcases (show j = 0 ∨ j = 1 ∨ j = 2 ∨ j = 3 ∨ j = 4 ∨ j = 5 ∨ j = 6 ∨ j = 7 ∨ j = 8 ∨ j = 9 ∨ j = 10 ∨ j = 11 ∨ j = 12 ∨ j = 13 ∨ j = 14 ∨ j = 15 by omega) with rfl | rfl | rfl | rfl | rfl | rfl | rfl | rfl | rfl | rfl | rfl | rfl | rfl | rfl | rfl | rfl <;> rfl) (Nat.le_of_ble_eq_true rfl) (Nat.le_of_ble_eq_true rfl) dX11_init_5 (fun q1 H hP hD hS => ?_)
  have hP : va_P (dC, dI) pcl [(h0, .inr (12, [.null, .null, .null, .null, .null, .int 0, .int 0, .int 0, .int 0, .long 0])), (q1, .inr (7, [.null, .null, .null, .null, .null, .null, .null, .null, .null, .int 0, .int 0, .int 0, .int 0, .int 0, .int 0, .int 0]))] H := hP
  have hD : va_D A [(h0, .inr (12, [.null, .null, .null, .null, .null, .int 0, .int 0, .int 0, .int 0, .long 0])), (q1, .inr (7, [.null, .null, .null, .null, .null, .null, .null, .null, .null, .int 0, .int 0, .int 0, .int 0, .int 0, .int 0, .int 0]))] := hD
  refine W.widen (k := 1) (n := 16) (Nat.le_of_ble_eq_true rfl) (Nat.le_of_ble_eq_true rfl) ?_
  refine lv_dup hx hb dX11_init_8 rfl ?_
  refine lv_sipush (v := 1000) hx hb dX11_init_9 (by decide) ?_
  have hPc := hP.sub (ws' := [(q1, .inr (7, [.null, .null, .null, .null, .null, .null, .null, .null, .null, .int 0, .int 0, .int 0, .int 0, .int 0, .int 0, .int 0]))]) [1] rfl
  have hDc := hD.sub (ws' := [(q1, .inr (7, [.null, .null, .null, .null, .null, .null, .null, .null, .null, .int 0, .int 0, .int 0, .int 0, .int 0, .int 0, .int 0]))]) [1] (by decide) rfl
  have hKc := hK.sub (tys' := []) [] rfl
  have hFc := va_free (wc := [(q1, .inr (7, [.null, .null, .null, .null, .null, .null, .null, .null, .null, .int 0, .int 0, .int 0, .int 0, .int 0, .int 0, .int 0]))]) hD hS hA [1] rfl
  refine va_callv (va_runIN (As := [.int 1000]) (rest := [.ref q1, .ref h0]) ⟨hx, hb, hml, hown, hts⟩ (c_X6_init l dC dI z q1 1000 H.size) ⟨va_cnB 1 hts (ws_good e99) rfl rfl rfl (hN _ n11) (hts _ e97) ⟨by decide +kernel, by decide +kernel, by decide +kernel⟩ ⟨Nat.le_of_ble_eq_true rfl, Nat.le_of_ble_eq_true rfl⟩, rfl, (hts _ e98)⟩ ⟨pPre_blind, fun U hU hW => ⟨rfl, pPre_at hPc hKc hDc hE hS hFc U hU hW⟩⟩ rfl rfl hl.1 rfl (lv_room (Nat.le_of_ble_eq_true rfl)) dX11_init_12 ⟨Nat.le_of_ble_eq_true rfl, Nat.le_of_ble_eq_true rfl⟩) hS (fun q _ h => hFc q h) hFc (fun u t H1 locs ht hvm hw hB hz1 hk1 hS => ?_)
  obtain ⟨q3, q4, q5, q6, q7, q8, q9, q10, q11, q12, q13, q14, q15, q16, q17, q18, q19, q20, q21, q22, q23, q24, q25, q26, q27, q28, q29, q30, q31, q32, q33, q34, q35, q36, cA37, cA38, cA39, hP1, hK1, hD1⟩ := hB
  rw [ht] at hP1
  have hK1 := va_K.moved hvm.symm hK1
  obtain ⟨hP, hD⟩ := va_join (wr := [(h0, .inr (12, [.null, .null, .null, .null, .null, .int 0, .int 0, .int 0, .int 0, .long 0]))]) (w1 := [(q1, .inr (7, [.ref q3, .ref q4, .ref q5, .ref q6, .ref q7, .ref q8, .ref q9, .ref q10, .ref q11, .int 1000, .int 0, .int 0, .int 0, .int 0, .int 0, .int 0])), (q3, .inr (11, [.ref q12, .ref q13, .ref q14, .int 0])), (q4, .inr (11, [.ref q15, .ref q16, .ref q17, .int 0])), (q5, .inl (cA37, 100, .inl (fun _ => 0))), (q6, .inr (8, [.ref q18, .int 0])), (q7, .inr (2, [.ref q19, .ref q20, .ref q21, .ref q22, .ref q23, .ref q24, .ref q25, .ref q26, .ref q27, .ref q28, .int 0, .int 0, .int 0])), (q8, .inr (3, [.ref q29, .ref q30, .ref q31, .ref q32, .ref q33, .ref q34, .int 0, .int 0, .int 0, .int 0, .int 0])), (q9, .inr (6, [.ref q35, .ref q36, .int 0, .int 0])), (q35, .inl (cA38, 40, .inl (fun _ => 0))), (q36, .inl (cA39, 40, .inl (fun _ => 0)))]) hP hD [1] [0] rfl rfl (by decide) (by decide) hk1 hFc hP1 hD1
  have hK := hK.app hK1
  generalize H1 = H at hP hS ⊢
  have hP : va_P (dC, dI) pcl [(h0, .inr (12, [.null, .null, .null, .null, .null, .int 0, .int 0, .int 0, .int 0, .long 0])), (q1, .inr (7, [.ref q3, .ref q4, .ref q5, .ref q6, .ref q7, .ref q8, .ref q9, .ref q10, .ref q11, .int 1000, .int 0, .int 0, .int 0, .int 0, .int 0, .int 0])), (q3, .inr (11, [.ref q12, .ref q13, .ref q14, .int 0])), (q4, .inr (11, [.ref q15, .ref q16, .ref q17, .int 0])), (q5, .inl (cA37, 100, .inl (fun _ => 0))), (q6, .inr (8, [.ref q18, .int 0])), (q7, .inr (2, [.ref q19, .ref q20, .ref q21, .ref q22, .ref q23, .ref q24, .ref q25, .ref q26, .ref q27, .ref q28, .int 0, .int 0, .int 0])), (q8, .inr (3, [.ref q29, .ref q30, .ref q31, .ref q32, .ref q33, .ref q34, .int 0, .int 0, .int 0, .int 0, .int 0])), (q9, .inr (6, [.ref q35, .ref q36, .int 0, .int 0])), (q35, .inl (cA38, 40, .inl (fun _ => 0))), (q36, .inl (cA39, 40, .inl (fun _ => 0)))] H := hP
  have hD : va_D A [(h0, .inr (12, [.null, .null, .null, .null, .null, .int 0, .int 0, .int 0, .int 0, .long 0])), (q1, .inr (7, [.ref q3, .ref q4, .ref q5, .ref q6, .ref q7, .ref q8, .ref q9, .ref q10, .ref q11, .int 1000, .int 0, .int 0, .int 0, .int 0, .int 0, .int 0])), (q3, .inr (11, [.ref q12, .ref q13, .ref q14, .int 0])), (q4, .inr (11, [.ref q15, .ref q16, .ref q17, .int 0])), (q5, .inl (cA37, 100, .inl (fun _ => 0))), (q6, .inr (8, [.ref q18, .int 0])), (q7, .inr (2, [.ref q19, .ref q20, .ref q21, .ref q22, .ref q23, .ref q24, .ref q25, .ref q26, .ref q27, .ref q28, .int 0, .int 0, .int 0])), (q8, .inr (3, [.ref q29, .ref q30, .ref q31, .ref q32, .ref q33, .ref q34, .int 0, .int 0, .int 0, .int 0, .int 0])), (q9, .inr (6, [.ref q35, .ref q36, .int 0, .int 0])), (q35, .inl (cA38, 40, .inl (fun _ => 0))), (q36, .inl (cA39, 40, .inl (fun _ => 0)))] := hD
  have hK : va_K (dC, dI) pcl [(cA37, .int), (cA38, .int), (cA39, .int)] s := hK
  refine W.widen (k := 35) (n := 6316) (Nat.le_of_ble_eq_true rfl) (Nat.le_of_ble_eq_true rfl) ?_
  refine va_putF (D := (dC, dI)) (ci := 12) (v := .ref q1) (ty := .object "WordFoundry$Machine") (C := RX11) (T := TX11) (N := 10) hx hb hts pinX11 tyX11 tyX11_ok nmX11 hown hK hP hD hS 0 rfl rfl 0 (by decide) (hts _ e120) (fun _ h9 => h9) rfl hin rfl (by decide +kernel) rfl rfl (Nat.le_of_ble_eq_true rfl) dX11_init_15 (fun H locs hP hD hS => ?_)
  have hP : va_P (dC, dI) pcl [(h0, .inr (12, [.ref q1, .null, .null, .null, .null, .int 0, .int 0, .int 0, .int 0, .long 0])), (q1, .inr (7, [.ref q3, .ref q4, .ref q5, .ref q6, .ref q7, .ref q8, .ref q9, .ref q10, .ref q11, .int 1000, .int 0, .int 0, .int 0, .int 0, .int 0, .int 0])), (q3, .inr (11, [.ref q12, .ref q13, .ref q14, .int 0])), (q4, .inr (11, [.ref q15, .ref q16, .ref q17, .int 0])), (q5, .inl (cA37, 100, .inl (fun _ => 0))), (q6, .inr (8, [.ref q18, .int 0])), (q7, .inr (2, [.ref q19, .ref q20, .ref q21, .ref q22, .ref q23, .ref q24, .ref q25, .ref q26, .ref q27, .ref q28, .int 0, .int 0, .int 0])), (q8, .inr (3, [.ref q29, .ref q30, .ref q31, .ref q32, .ref q33, .ref q34, .int 0, .int 0, .int 0, .int 0, .int 0])), (q9, .inr (6, [.ref q35, .ref q36, .int 0, .int 0])), (q35, .inl (cA38, 40, .inl (fun _ => 0))), (q36, .inl (cA39, 40, .inl (fun _ => 0)))] H := hP
  have hD : va_D A [(h0, .inr (12, [.ref q1, .null, .null, .null, .null, .int 0, .int 0, .int 0, .int 0, .long 0])), (q1, .inr (7, [.ref q3, .ref q4, .ref q5, .ref q6, .ref q7, .ref q8, .ref q9, .ref q10, .ref q11, .int 1000, .int 0, .int 0, .int 0, .int 0, .int 0, .int 0])), (q3, .inr (11, [.ref q12, .ref q13, .ref q14, .int 0])), (q4, .inr (11, [.ref q15, .ref q16, .ref q17, .int 0])), (q5, .inl (cA37, 100, .inl (fun _ => 0))), (q6, .inr (8, [.ref q18, .int 0])), (q7, .inr (2, [.ref q19, .ref q20, .ref q21, .ref q22, .ref q23, .ref q24, .ref q25, .ref q26, .ref q27, .ref q28, .int 0, .int 0, .int 0])), (q8, .inr (3, [.ref q29, .ref q30, .ref q31, .ref q32, .ref q33, .ref q34, .int 0, .int 0, .int 0, .int 0, .int 0])), (q9, .inr (6, [.ref q35, .ref q36, .int 0, .int 0])), (q35, .inl (cA38, 40, .inl (fun _ => 0))), (q36, .inl (cA39, 40, .inl (fun _ => 0)))] := hD
  refine lv_aload_n hx hb dX11_init_18 rfl (lv_at hl 0 rfl) ?_
  refine va_new (ci := 5) (fs := [.null, .null, .null, .null]) (C := RX4) (T := TX4) (N := 4) hx hb hts pinX4 tyX4 tyX4_ok hown (hts _ e121) (hts _ e102) (hts _ e103) hK hP hD hS hA rfl (fun j hj => by rcases (show j = 0 ∨ j = 1 ∨ j = 2 ∨ j = 3 by omega) with rfl | rfl | rfl | rfl <;> rfl) (Nat.le_of_ble_eq_true rfl) (Nat.le_of_ble_eq_true rfl) dX11_init_19 (fun q40 H hP hD hS => ?_)
  have hP : va_P (dC, dI) pcl [(h0, .inr (12, [.ref q1, .null, .null, .null, .null, .int 0, .int 0, .int 0, .int 0, .long 0])), (q1, .inr (7, [.ref q3, .ref q4, .ref q5, .ref q6, .ref q7, .ref q8, .ref q9, .ref q10, .ref q11, .int 1000, .int 0, .int 0, .int 0, .int 0, .int 0, .int 0])), (q3, .inr (11, [.ref q12, .ref q13, .ref q14, .int 0])), (q4, .inr (11, [.ref q15, .ref q16, .ref q17, .int 0])), (q5, .inl (cA37, 100, .inl (fun _ => 0))), (q6, .inr (8, [.ref q18, .int 0])), (q7, .inr (2, [.ref q19, .ref q20, .ref q21, .ref q22, .ref q23, .ref q24, .ref q25, .ref q26, .ref q27, .ref q28, .int 0, .int 0, .int 0])), (q8, .inr (3, [.ref q29, .ref q30, .ref q31, .ref q32, .ref q33, .ref q34, .int 0, .int 0, .int 0, .int 0, .int 0])), (q9, .inr (6, [.ref q35, .ref q36, .int 0, .int 0])), (q35, .inl (cA38, 40, .inl (fun _ => 0))), (q36, .inl (cA39, 40, .inl (fun _ => 0))), (q40, .inr (5, [.null, .null, .null, .null]))] H := hP
  have hD : va_D A [(h0, .inr (12, [.ref q1, .null, .null, .null, .null, .int 0, .int 0, .int 0, .int 0, .long 0])), (q1, .inr (7, [.ref q3, .ref q4, .ref q5, .ref q6, .ref q7, .ref q8, .ref q9, .ref q10, .ref q11, .int 1000, .int 0, .int 0, .int 0, .int 0, .int 0, .int 0])), (q3, .inr (11, [.ref q12, .ref q13, .ref q14, .int 0])), (q4, .inr (11, [.ref q15, .ref q16, .ref q17, .int 0])), (q5, .inl (cA37, 100, .inl (fun _ => 0))), (q6, .inr (8, [.ref q18, .int 0])), (q7, .inr (2, [.ref q19, .ref q20, .ref q21, .ref q22, .ref q23, .ref q24, .ref q25, .ref q26, .ref q27, .ref q28, .int 0, .int 0, .int 0])), (q8, .inr (3, [.ref q29, .ref q30, .ref q31, .ref q32, .ref q33, .ref q34, .int 0, .int 0, .int 0, .int 0, .int 0])), (q9, .inr (6, [.ref q35, .ref q36, .int 0, .int 0])), (q35, .inl (cA38, 40, .inl (fun _ => 0))), (q36, .inl (cA39, 40, .inl (fun _ => 0))), (q40, .inr (5, [.null, .null, .null, .null]))] := hD
  refine W.widen (k := 36) (n := 6320) (Nat.le_of_ble_eq_true rfl) (Nat.le_of_ble_eq_true rfl) ?_
  refine lv_dup hx hb dX11_init_22 rfl ?_
  refine lv_aload_n hx hb dX11_init_23 rfl (lv_at hl 0 rfl) ?_
  refine va_get (D := (dC, dI)) (ci := 12) (v := .ref q1) (C := RX11) (T := TX11) (N := 10) hx hb hts pinX11 hown hK hP 0 rfl rfl 0 (by decide) (hts _ e120) (fun _ h9 => h9) rfl dX11_init_24 ?_
  have hPc := hP.sub (ws' := [(q40, .inr (5, [.null, .null, .null, .null]))]) [11] rfl
  have hDc := hD.sub (ws' := [(q40, .inr (5, [.null, .null, .null, .null]))]) [11] (by decide) rfl
  have hKc := hK.sub (tys' := []) [] rfl
  have hFc := va_free (wc := [(q40, .inr (5, [.null, .null, .null, .null]))]) hD hS hA [11] rfl
  refine va_callv (va_runIN (As := [.ref q1]) (rest := [.ref q40, .ref h0]) ⟨hx, hb, hml, hown, hts⟩ (c_X4_init l dC dI z q40 q1 H.size) ⟨va_cnB 1 hts (ws_good e105) rfl rfl rfl (hN _ n12) (hts _ e103) ⟨by decide +kernel, by decide +kernel, by decide +kernel⟩ ⟨Nat.le_of_ble_eq_true rfl, Nat.le_of_ble_eq_true rfl⟩, rfl, (hts _ e104)⟩ ⟨pPre_blind, fun U hU hW => ⟨rfl, pPre_at hPc hKc hDc hE hS hFc U hU hW⟩⟩ rfl rfl hl.1 rfl (lv_room (Nat.le_of_ble_eq_true rfl)) dX11_init_27 ⟨Nat.le_of_ble_eq_true rfl, Nat.le_of_ble_eq_true rfl⟩) hS (fun q _ h => hFc q h) hFc (fun u t H1 locs ht hvm hw hB hz1 hk1 hS => ?_)
  obtain ⟨q42, q43, q44, hP1, hK1, hD1⟩ := hB
  rw [ht] at hP1
  have hK1 := va_K.moved hvm.symm hK1
  obtain ⟨hP, hD⟩ := va_join (wr := [(h0, .inr (12, [.ref q1, .null, .null, .null, .null, .int 0, .int 0, .int 0, .int 0, .long 0])), (q1, .inr (7, [.ref q3, .ref q4, .ref q5, .ref q6, .ref q7, .ref q8, .ref q9, .ref q10, .ref q11, .int 1000, .int 0, .int 0, .int 0, .int 0, .int 0, .int 0])), (q3, .inr (11, [.ref q12, .ref q13, .ref q14, .int 0])), (q4, .inr (11, [.ref q15, .ref q16, .ref q17, .int 0])), (q5, .inl (cA37, 100, .inl (fun _ => 0))), (q6, .inr (8, [.ref q18, .int 0])), (q7, .inr (2, [.ref q19, .ref q20, .ref q21, .ref q22, .ref q23, .ref q24, .ref q25, .ref q26, .ref q27, .ref q28, .int 0, .int 0, .int 0])), (q8, .inr (3, [.ref q29, .ref q30, .ref q31, .ref q32, .ref q33, .ref q34, .int 0, .int 0, .int 0, .int 0, .int 0])), (q9, .inr (6, [.ref q35, .ref q36, .int 0, .int 0])), (q35, .inl (cA38, 40, .inl (fun _ => 0))), (q36, .inl (cA39, 40, .inl (fun _ => 0)))]) (w1 := [(q40, .inr (5, [.ref q1, .ref q42, .ref q43, .ref q44]))]) hP hD [11] [0, 1, 2, 3, 4, 5, 6, 7, 8, 9, 10] rfl rfl (by decide) (by decide) hk1 hFc hP1 hD1
  have hK := hK.app hK1
  generalize H1 = H at hP hS ⊢
  have hP : va_P (dC, dI) pcl [(h0, .inr (12, [.ref q1, .null, .null, .null, .null, .int 0, .int 0, .int 0, .int 0, .long 0])), (q1, .inr (7, [.ref q3, .ref q4, .ref q5, .ref q6, .ref q7, .ref q8, .ref q9, .ref q10, .ref q11, .int 1000, .int 0, .int 0, .int 0, .int 0, .int 0, .int 0])), (q3, .inr (11, [.ref q12, .ref q13, .ref q14, .int 0])), (q4, .inr (11, [.ref q15, .ref q16, .ref q17, .int 0])), (q5, .inl (cA37, 100, .inl (fun _ => 0))), (q6, .inr (8, [.ref q18, .int 0])), (q7, .inr (2, [.ref q19, .ref q20, .ref q21, .ref q22, .ref q23, .ref q24, .ref q25, .ref q26, .ref q27, .ref q28, .int 0, .int 0, .int 0])), (q8, .inr (3, [.ref q29, .ref q30, .ref q31, .ref q32, .ref q33, .ref q34, .int 0, .int 0, .int 0, .int 0, .int 0])), (q9, .inr (6, [.ref q35, .ref q36, .int 0, .int 0])), (q35, .inl (cA38, 40, .inl (fun _ => 0))), (q36, .inl (cA39, 40, .inl (fun _ => 0))), (q40, .inr (5, [.ref q1, .ref q42, .ref q43, .ref q44]))] H := hP
  have hD : va_D A [(h0, .inr (12, [.ref q1, .null, .null, .null, .null, .int 0, .int 0, .int 0, .int 0, .long 0])), (q1, .inr (7, [.ref q3, .ref q4, .ref q5, .ref q6, .ref q7, .ref q8, .ref q9, .ref q10, .ref q11, .int 1000, .int 0, .int 0, .int 0, .int 0, .int 0, .int 0])), (q3, .inr (11, [.ref q12, .ref q13, .ref q14, .int 0])), (q4, .inr (11, [.ref q15, .ref q16, .ref q17, .int 0])), (q5, .inl (cA37, 100, .inl (fun _ => 0))), (q6, .inr (8, [.ref q18, .int 0])), (q7, .inr (2, [.ref q19, .ref q20, .ref q21, .ref q22, .ref q23, .ref q24, .ref q25, .ref q26, .ref q27, .ref q28, .int 0, .int 0, .int 0])), (q8, .inr (3, [.ref q29, .ref q30, .ref q31, .ref q32, .ref q33, .ref q34, .int 0, .int 0, .int 0, .int 0, .int 0])), (q9, .inr (6, [.ref q35, .ref q36, .int 0, .int 0])), (q35, .inl (cA38, 40, .inl (fun _ => 0))), (q36, .inl (cA39, 40, .inl (fun _ => 0))), (q40, .inr (5, [.ref q1, .ref q42, .ref q43, .ref q44]))] := hD
  have hK : va_K (dC, dI) pcl [(cA37, .int), (cA38, .int), (cA39, .int)] s := hK
  refine W.widen (k := 39) (n := 6411) (Nat.le_of_ble_eq_true rfl) (Nat.le_of_ble_eq_true rfl) ?_
  refine va_putF (D := (dC, dI)) (ci := 12) (v := .ref q40) (ty := .object "WordFoundry$FrameRunner") (C := RX11) (T := TX11) (N := 10) hx hb hts pinX11 tyX11 tyX11_ok nmX11 hown hK hP hD hS 0 rfl rfl 1 (by decide) (hts _ e122) (fun _ h9 => h9) rfl hin rfl (by decide +kernel) rfl rfl (Nat.le_of_ble_eq_true rfl) dX11_init_30 (fun H locs hP hD hS => ?_)
  have hP : va_P (dC, dI) pcl [(h0, .inr (12, [.ref q1, .ref q40, .null, .null, .null, .int 0, .int 0, .int 0, .int 0, .long 0])), (q1, .inr (7, [.ref q3, .ref q4, .ref q5, .ref q6, .ref q7, .ref q8, .ref q9, .ref q10, .ref q11, .int 1000, .int 0, .int 0, .int 0, .int 0, .int 0, .int 0])), (q3, .inr (11, [.ref q12, .ref q13, .ref q14, .int 0])), (q4, .inr (11, [.ref q15, .ref q16, .ref q17, .int 0])), (q5, .inl (cA37, 100, .inl (fun _ => 0))), (q6, .inr (8, [.ref q18, .int 0])), (q7, .inr (2, [.ref q19, .ref q20, .ref q21, .ref q22, .ref q23, .ref q24, .ref q25, .ref q26, .ref q27, .ref q28, .int 0, .int 0, .int 0])), (q8, .inr (3, [.ref q29, .ref q30, .ref q31, .ref q32, .ref q33, .ref q34, .int 0, .int 0, .int 0, .int 0, .int 0])), (q9, .inr (6, [.ref q35, .ref q36, .int 0, .int 0])), (q35, .inl (cA38, 40, .inl (fun _ => 0))), (q36, .inl (cA39, 40, .inl (fun _ => 0))), (q40, .inr (5, [.ref q1, .ref q42, .ref q43, .ref q44]))] H := hP
  have hD : va_D A [(h0, .inr (12, [.ref q1, .ref q40, .null, .null, .null, .int 0, .int 0, .int 0, .int 0, .long 0])), (q1, .inr (7, [.ref q3, .ref q4, .ref q5, .ref q6, .ref q7, .ref q8, .ref q9, .ref q10, .ref q11, .int 1000, .int 0, .int 0, .int 0, .int 0, .int 0, .int 0])), (q3, .inr (11, [.ref q12, .ref q13, .ref q14, .int 0])), (q4, .inr (11, [.ref q15, .ref q16, .ref q17, .int 0])), (q5, .inl (cA37, 100, .inl (fun _ => 0))), (q6, .inr (8, [.ref q18, .int 0])), (q7, .inr (2, [.ref q19, .ref q20, .ref q21, .ref q22, .ref q23, .ref q24, .ref q25, .ref q26, .ref q27, .ref q28, .int 0, .int 0, .int 0])), (q8, .inr (3, [.ref q29, .ref q30, .ref q31, .ref q32, .ref q33, .ref q34, .int 0, .int 0, .int 0, .int 0, .int 0])), (q9, .inr (6, [.ref q35, .ref q36, .int 0, .int 0])), (q35, .inl (cA38, 40, .inl (fun _ => 0))), (q36, .inl (cA39, 40, .inl (fun _ => 0))), (q40, .inr (5, [.ref q1, .ref q42, .ref q43, .ref q44]))] := hD
  refine lv_aload_n hx hb dX11_init_33 rfl (lv_at hl 0 rfl) ?_
  refine va_new (ci := 4) (fs := [.null, .null, .null, .null, .null, .int 0, .int 0, .int 0, .int 0]) (C := RX3) (T := TX3) (N := 9) hx hb hts pinX3 tyX3 tyX3_ok hown (hts _ e123) (hts _ e124) (hts _ e125) hK hP hD hS hA rfl (fun j hj => by rcases (show j = 0 ∨ j = 1 ∨ j = 2 ∨ j = 3 ∨ j = 4 ∨ j = 5 ∨ j = 6 ∨ j = 7 ∨ j = 8 by omega) with rfl | rfl | rfl | rfl | rfl | rfl | rfl | rfl | rfl <;> rfl) (Nat.le_of_ble_eq_true rfl) (Nat.le_of_ble_eq_true rfl) dX11_init_34 (fun q45 H hP hD hS => ?_)
  have hP : va_P (dC, dI) pcl [(h0, .inr (12, [.ref q1, .ref q40, .null, .null, .null, .int 0, .int 0, .int 0, .int 0, .long 0])), (q1, .inr (7, [.ref q3, .ref q4, .ref q5, .ref q6, .ref q7, .ref q8, .ref q9, .ref q10, .ref q11, .int 1000, .int 0, .int 0, .int 0, .int 0, .int 0, .int 0])), (q3, .inr (11, [.ref q12, .ref q13, .ref q14, .int 0])), (q4, .inr (11, [.ref q15, .ref q16, .ref q17, .int 0])), (q5, .inl (cA37, 100, .inl (fun _ => 0))), (q6, .inr (8, [.ref q18, .int 0])), (q7, .inr (2, [.ref q19, .ref q20, .ref q21, .ref q22, .ref q23, .ref q24, .ref q25, .ref q26, .ref q27, .ref q28, .int 0, .int 0, .int 0])), (q8, .inr (3, [.ref q29, .ref q30, .ref q31, .ref q32, .ref q33, .ref q34, .int 0, .int 0, .int 0, .int 0, .int 0])), (q9, .inr (6, [.ref q35, .ref q36, .int 0, .int 0])), (q35, .inl (cA38, 40, .inl (fun _ => 0))), (q36, .inl (cA39, 40, .inl (fun _ => 0))), (q40, .inr (5, [.ref q1, .ref q42, .ref q43, .ref q44])), (q45, .inr (4, [.null, .null, .null, .null, .null, .int 0, .int 0, .int 0, .int 0]))] H := hP
  have hD : va_D A [(h0, .inr (12, [.ref q1, .ref q40, .null, .null, .null, .int 0, .int 0, .int 0, .int 0, .long 0])), (q1, .inr (7, [.ref q3, .ref q4, .ref q5, .ref q6, .ref q7, .ref q8, .ref q9, .ref q10, .ref q11, .int 1000, .int 0, .int 0, .int 0, .int 0, .int 0, .int 0])), (q3, .inr (11, [.ref q12, .ref q13, .ref q14, .int 0])), (q4, .inr (11, [.ref q15, .ref q16, .ref q17, .int 0])), (q5, .inl (cA37, 100, .inl (fun _ => 0))), (q6, .inr (8, [.ref q18, .int 0])), (q7, .inr (2, [.ref q19, .ref q20, .ref q21, .ref q22, .ref q23, .ref q24, .ref q25, .ref q26, .ref q27, .ref q28, .int 0, .int 0, .int 0])), (q8, .inr (3, [.ref q29, .ref q30, .ref q31, .ref q32, .ref q33, .ref q34, .int 0, .int 0, .int 0, .int 0, .int 0])), (q9, .inr (6, [.ref q35, .ref q36, .int 0, .int 0])), (q35, .inl (cA38, 40, .inl (fun _ => 0))), (q36, .inl (cA39, 40, .inl (fun _ => 0))), (q40, .inr (5, [.ref q1, .ref q42, .ref q43, .ref q44])), (q45, .inr (4, [.null, .null, .null, .null, .null, .int 0, .int 0, .int 0, .int 0]))] := hD
  refine W.widen (k := 40) (n := 6420) (Nat.le_of_ble_eq_true rfl) (Nat.le_of_ble_eq_true rfl) ?_
  refine lv_dup hx hb dX11_init_37 rfl ?_
  refine lv_aload_n hx hb dX11_init_38 rfl (lv_at hl 0 rfl) ?_
  refine va_get (D := (dC, dI)) (ci := 12) (v := .ref q1) (C := RX11) (T := TX11) (N := 10) hx hb hts pinX11 hown hK hP 0 rfl rfl 0 (by decide) (hts _ e120) (fun _ h9 => h9) rfl dX11_init_39 ?_
  refine va_getN (D := (dC, dI)) (ci := 7) (v := .ref q7) (C := RX6) (T := TX6) (N := 16) hx hb hts pinX6 hown hK hP 1 rfl rfl 4 (by decide) (va_Nw.use rfl (hN _ n13)) (fun _ h9 => h9) rfl dX11_init_42 ?_
  have hPc := hP.sub (ws' := [(q45, .inr (4, [.null, .null, .null, .null, .null, .int 0, .int 0, .int 0, .int 0]))]) [12] rfl
  have hDc := hD.sub (ws' := [(q45, .inr (4, [.null, .null, .null, .null, .null, .int 0, .int 0, .int 0, .int 0]))]) [12] (by decide) rfl
  have hKc := hK.sub (tys' := []) [] rfl
  have hFc := va_free (wc := [(q45, .inr (4, [.null, .null, .null, .null, .null, .int 0, .int 0, .int 0, .int 0]))]) hD hS hA [12] rfl
  refine va_callv (va_runIN (As := [.ref q7]) (rest := [.ref q45, .ref h0]) ⟨hx, hb, hml, hown, hts⟩ (c_X3_init l dC dI z q45 q7 H.size) ⟨va_cnB 1 hts (ws_good e127) rfl rfl rfl (hN _ n14) (hts _ e125) ⟨by decide +kernel, by decide +kernel, by decide +kernel⟩ ⟨Nat.le_of_ble_eq_true rfl, Nat.le_of_ble_eq_true rfl⟩, rfl, (hts _ e126)⟩ ⟨pPre_blind, fun U hU hW => ⟨rfl, pPre_at hPc hKc hDc hE hS hFc U hU hW⟩⟩ rfl rfl hl.1 rfl (lv_room (Nat.le_of_ble_eq_true rfl)) dX11_init_45 ⟨Nat.le_of_ble_eq_true rfl, Nat.le_of_ble_eq_true rfl⟩) hS (fun q _ h => hFc q h) hFc (fun u t H1 locs ht hvm hw hB hz1 hk1 hS => ?_)
  obtain ⟨q47, q48, q49, q50, hP1, hK1, hD1⟩ := hB
  rw [ht] at hP1
  have hK1 := va_K.moved hvm.symm hK1
  obtain ⟨hP, hD⟩ := va_join (wr := [(h0, .inr (12, [.ref q1, .ref q40, .null, .null, .null, .int 0, .int 0, .int 0, .int 0, .long 0])), (q1, .inr (7, [.ref q3, .ref q4, .ref q5, .ref q6, .ref q7, .ref q8, .ref q9, .ref q10, .ref q11, .int 1000, .int 0, .int 0, .int 0, .int 0, .int 0, .int 0])), (q3, .inr (11, [.ref q12, .ref q13, .ref q14, .int 0])), (q4, .inr (11, [.ref q15, .ref q16, .ref q17, .int 0])), (q5, .inl (cA37, 100, .inl (fun _ => 0))), (q6, .inr (8, [.ref q18, .int 0])), (q7, .inr (2, [.ref q19, .ref q20, .ref q21, .ref q22, .ref q23, .ref q24, .ref q25, .ref q26, .ref q27, .ref q28, .int 0, .int 0, .int 0])), (q8, .inr (3, [.ref q29, .ref q30, .ref q31, .ref q32, .ref q33, .ref q34, .int 0, .int 0, .int 0, .int 0, .int 0])), (q9, .inr (6, [.ref q35, .ref q36, .int 0, .int 0])), (q35, .inl (cA38, 40, .inl (fun _ => 0))), (q36, .inl (cA39, 40, .inl (fun _ => 0))), (q40, .inr (5, [.ref q1, .ref q42, .ref q43, .ref q44]))]) (w1 := [(q45, .inr (4, [.ref q7, .ref q47, .ref q48, .ref q49, .ref q50, .int 0, .int 0, .int 0, .int 0]))]) hP hD [12] [0, 1, 2, 3, 4, 5, 6, 7, 8, 9, 10, 11] rfl rfl (by decide) (by decide) hk1 hFc hP1 hD1
  have hK := hK.app hK1
  generalize H1 = H at hP hS ⊢
  have hP : va_P (dC, dI) pcl [(h0, .inr (12, [.ref q1, .ref q40, .null, .null, .null, .int 0, .int 0, .int 0, .int 0, .long 0])), (q1, .inr (7, [.ref q3, .ref q4, .ref q5, .ref q6, .ref q7, .ref q8, .ref q9, .ref q10, .ref q11, .int 1000, .int 0, .int 0, .int 0, .int 0, .int 0, .int 0])), (q3, .inr (11, [.ref q12, .ref q13, .ref q14, .int 0])), (q4, .inr (11, [.ref q15, .ref q16, .ref q17, .int 0])), (q5, .inl (cA37, 100, .inl (fun _ => 0))), (q6, .inr (8, [.ref q18, .int 0])), (q7, .inr (2, [.ref q19, .ref q20, .ref q21, .ref q22, .ref q23, .ref q24, .ref q25, .ref q26, .ref q27, .ref q28, .int 0, .int 0, .int 0])), (q8, .inr (3, [.ref q29, .ref q30, .ref q31, .ref q32, .ref q33, .ref q34, .int 0, .int 0, .int 0, .int 0, .int 0])), (q9, .inr (6, [.ref q35, .ref q36, .int 0, .int 0])), (q35, .inl (cA38, 40, .inl (fun _ => 0))), (q36, .inl (cA39, 40, .inl (fun _ => 0))), (q40, .inr (5, [.ref q1, .ref q42, .ref q43, .ref q44])), (q45, .inr (4, [.ref q7, .ref q47, .ref q48, .ref q49, .ref q50, .int 0, .int 0, .int 0, .int 0]))] H := hP
  have hD : va_D A [(h0, .inr (12, [.ref q1, .ref q40, .null, .null, .null, .int 0, .int 0, .int 0, .int 0, .long 0])), (q1, .inr (7, [.ref q3, .ref q4, .ref q5, .ref q6, .ref q7, .ref q8, .ref q9, .ref q10, .ref q11, .int 1000, .int 0, .int 0, .int 0, .int 0, .int 0, .int 0])), (q3, .inr (11, [.ref q12, .ref q13, .ref q14, .int 0])), (q4, .inr (11, [.ref q15, .ref q16, .ref q17, .int 0])), (q5, .inl (cA37, 100, .inl (fun _ => 0))), (q6, .inr (8, [.ref q18, .int 0])), (q7, .inr (2, [.ref q19, .ref q20, .ref q21, .ref q22, .ref q23, .ref q24, .ref q25, .ref q26, .ref q27, .ref q28, .int 0, .int 0, .int 0])), (q8, .inr (3, [.ref q29, .ref q30, .ref q31, .ref q32, .ref q33, .ref q34, .int 0, .int 0, .int 0, .int 0, .int 0])), (q9, .inr (6, [.ref q35, .ref q36, .int 0, .int 0])), (q35, .inl (cA38, 40, .inl (fun _ => 0))), (q36, .inl (cA39, 40, .inl (fun _ => 0))), (q40, .inr (5, [.ref q1, .ref q42, .ref q43, .ref q44])), (q45, .inr (4, [.ref q7, .ref q47, .ref q48, .ref q49, .ref q50, .int 0, .int 0, .int 0, .int 0]))] := hD
  have hK : va_K (dC, dI) pcl [(cA37, .int), (cA38, .int), (cA39, .int)] s := hK
  refine W.widen (k := 45) (n := 7397) (Nat.le_of_ble_eq_true rfl) (Nat.le_of_ble_eq_true rfl) ?_
  refine va_putF (D := (dC, dI)) (ci := 12) (v := .ref q45) (ty := .object "WordFoundry$Effects") (C := RX11) (T := TX11) (N := 10) hx hb hts pinX11 tyX11 tyX11_ok nmX11 hown hK hP hD hS 0 rfl rfl 2 (by decide) (hts _ e128) (fun _ h9 => h9) rfl hin rfl (by decide +kernel) rfl rfl (Nat.le_of_ble_eq_true rfl) dX11_init_48 (fun H locs hP hD hS => ?_)
  have hP : va_P (dC, dI) pcl [(h0, .inr (12, [.ref q1, .ref q40, .ref q45, .null, .null, .int 0, .int 0, .int 0, .int 0, .long 0])), (q1, .inr (7, [.ref q3, .ref q4, .ref q5, .ref q6, .ref q7, .ref q8, .ref q9, .ref q10, .ref q11, .int 1000, .int 0, .int 0, .int 0, .int 0, .int 0, .int 0])), (q3, .inr (11, [.ref q12, .ref q13, .ref q14, .int 0])), (q4, .inr (11, [.ref q15, .ref q16, .ref q17, .int 0])), (q5, .inl (cA37, 100, .inl (fun _ => 0))), (q6, .inr (8, [.ref q18, .int 0])), (q7, .inr (2, [.ref q19, .ref q20, .ref q21, .ref q22, .ref q23, .ref q24, .ref q25, .ref q26, .ref q27, .ref q28, .int 0, .int 0, .int 0])), (q8, .inr (3, [.ref q29, .ref q30, .ref q31, .ref q32, .ref q33, .ref q34, .int 0, .int 0, .int 0, .int 0, .int 0])), (q9, .inr (6, [.ref q35, .ref q36, .int 0, .int 0])), (q35, .inl (cA38, 40, .inl (fun _ => 0))), (q36, .inl (cA39, 40, .inl (fun _ => 0))), (q40, .inr (5, [.ref q1, .ref q42, .ref q43, .ref q44])), (q45, .inr (4, [.ref q7, .ref q47, .ref q48, .ref q49, .ref q50, .int 0, .int 0, .int 0, .int 0]))] H := hP
  have hD : va_D A [(h0, .inr (12, [.ref q1, .ref q40, .ref q45, .null, .null, .int 0, .int 0, .int 0, .int 0, .long 0])), (q1, .inr (7, [.ref q3, .ref q4, .ref q5, .ref q6, .ref q7, .ref q8, .ref q9, .ref q10, .ref q11, .int 1000, .int 0, .int 0, .int 0, .int 0, .int 0, .int 0])), (q3, .inr (11, [.ref q12, .ref q13, .ref q14, .int 0])), (q4, .inr (11, [.ref q15, .ref q16, .ref q17, .int 0])), (q5, .inl (cA37, 100, .inl (fun _ => 0))), (q6, .inr (8, [.ref q18, .int 0])), (q7, .inr (2, [.ref q19, .ref q20, .ref q21, .ref q22, .ref q23, .ref q24, .ref q25, .ref q26, .ref q27, .ref q28, .int 0, .int 0, .int 0])), (q8, .inr (3, [.ref q29, .ref q30, .ref q31, .ref q32, .ref q33, .ref q34, .int 0, .int 0, .int 0, .int 0, .int 0])), (q9, .inr (6, [.ref q35, .ref q36, .int 0, .int 0])), (q35, .inl (cA38, 40, .inl (fun _ => 0))), (q36, .inl (cA39, 40, .inl (fun _ => 0))), (q40, .inr (5, [.ref q1, .ref q42, .ref q43, .ref q44])), (q45, .inr (4, [.ref q7, .ref q47, .ref q48, .ref q49, .ref q50, .int 0, .int 0, .int 0, .int 0]))] := hD
  refine lv_aload_n hx hb dX11_init_51 rfl (lv_at hl 0 rfl) ?_
  refine va_new (ci := 10) (fs := [.null, .null, .null, .null]) (C := RX9) (T := TX9) (N := 4) hx hb hts pinX9 tyX9 tyX9_ok hown (hts _ e129) (hts _ e130) (hts _ e131) hK hP hD hS hA rfl (fun j hj => by rcases (show j = 0 ∨ j = 1 ∨ j = 2 ∨ j = 3 by omega) with rfl | rfl | rfl | rfl <;> rfl) (Nat.le_of_ble_eq_true rfl) (Nat.le_of_ble_eq_true rfl) dX11_init_52 (fun q51 H hP hD hS => ?_)
  have hP : va_P (dC, dI) pcl [(h0, .inr (12, [.ref q1, .ref q40, .ref q45, .null, .null, .int 0, .int 0, .int 0, .int 0, .long 0])), (q1, .inr (7, [.ref q3, .ref q4, .ref q5, .ref q6, .ref q7, .ref q8, .ref q9, .ref q10, .ref q11, .int 1000, .int 0, .int 0, .int 0, .int 0, .int 0, .int 0])), (q3, .inr (11, [.ref q12, .ref q13, .ref q14, .int 0])), (q4, .inr (11, [.ref q15, .ref q16, .ref q17, .int 0])), (q5, .inl (cA37, 100, .inl (fun _ => 0))), (q6, .inr (8, [.ref q18, .int 0])), (q7, .inr (2, [.ref q19, .ref q20, .ref q21, .ref q22, .ref q23, .ref q24, .ref q25, .ref q26, .ref q27, .ref q28, .int 0, .int 0, .int 0])), (q8, .inr (3, [.ref q29, .ref q30, .ref q31, .ref q32, .ref q33, .ref q34, .int 0, .int 0, .int 0, .int 0, .int 0])), (q9, .inr (6, [.ref q35, .ref q36, .int 0, .int 0])), (q35, .inl (cA38, 40, .inl (fun _ => 0))), (q36, .inl (cA39, 40, .inl (fun _ => 0))), (q40, .inr (5, [.ref q1, .ref q42, .ref q43, .ref q44])), (q45, .inr (4, [.ref q7, .ref q47, .ref q48, .ref q49, .ref q50, .int 0, .int 0, .int 0, .int 0])), (q51, .inr (10, [.null, .null, .null, .null]))] H := hP
  have hD : va_D A [(h0, .inr (12, [.ref q1, .ref q40, .ref q45, .null, .null, .int 0, .int 0, .int 0, .int 0, .long 0])), (q1, .inr (7, [.ref q3, .ref q4, .ref q5, .ref q6, .ref q7, .ref q8, .ref q9, .ref q10, .ref q11, .int 1000, .int 0, .int 0, .int 0, .int 0, .int 0, .int 0])), (q3, .inr (11, [.ref q12, .ref q13, .ref q14, .int 0])), (q4, .inr (11, [.ref q15, .ref q16, .ref q17, .int 0])), (q5, .inl (cA37, 100, .inl (fun _ => 0))), (q6, .inr (8, [.ref q18, .int 0])), (q7, .inr (2, [.ref q19, .ref q20, .ref q21, .ref q22, .ref q23, .ref q24, .ref q25, .ref q26, .ref q27, .ref q28, .int 0, .int 0, .int 0])), (q8, .inr (3, [.ref q29, .ref q30, .ref q31, .ref q32, .ref q33, .ref q34, .int 0, .int 0, .int 0, .int 0, .int 0])), (q9, .inr (6, [.ref q35, .ref q36, .int 0, .int 0])), (q35, .inl (cA38, 40, .inl (fun _ => 0))), (q36, .inl (cA39, 40, .inl (fun _ => 0))), (q40, .inr (5, [.ref q1, .ref q42, .ref q43, .ref q44])), (q45, .inr (4, [.ref q7, .ref q47, .ref q48, .ref q49, .ref q50, .int 0, .int 0, .int 0, .int 0])), (q51, .inr (10, [.null, .null, .null, .null]))] := hD
  refine W.widen (k := 46) (n := 7401) (Nat.le_of_ble_eq_true rfl) (Nat.le_of_ble_eq_true rfl) ?_
  refine lv_dup hx hb dX11_init_55 rfl ?_
  have hPc := hP.sub (ws' := [(q51, .inr (10, [.null, .null, .null, .null]))]) [13] rfl
  have hDc := hD.sub (ws' := [(q51, .inr (10, [.null, .null, .null, .null]))]) [13] (by decide) rfl
  have hKc := hK.sub (tys' := []) [] rfl
  have hFc := va_free (wc := [(q51, .inr (10, [.null, .null, .null, .null]))]) hD hS hA [13] rfl
  refine va_callv (va_runIN (As := []) (rest := [.ref q51, .ref h0]) ⟨hx, hb, hml, hown, hts⟩ (c_X9_init l dC dI z q51 H.size) ⟨va_cnB 0 hts (ws_good e133) rfl rfl rfl (hN _ n15) (hts _ e131) ⟨by decide +kernel, by decide +kernel, by decide +kernel⟩ ⟨Nat.le_of_ble_eq_true rfl, Nat.le_of_ble_eq_true rfl⟩, rfl, (hts _ e132)⟩ ⟨pPre_blind, fun U hU hW => ⟨rfl, pPre_at hPc hKc hDc hE hS hFc U hU hW⟩⟩ rfl rfl hl.1 rfl (lv_room (Nat.le_of_ble_eq_true rfl)) dX11_init_56 ⟨Nat.le_of_ble_eq_true rfl, Nat.le_of_ble_eq_true rfl⟩) hS (fun q _ h => hFc q h) hFc (fun u t H1 locs ht hvm hw hB hz1 hk1 hS => ?_)
  obtain ⟨q53, q54, q55, q56, hP1, hK1, hD1⟩ := hB
  rw [ht] at hP1
  have hK1 := va_K.moved hvm.symm hK1
  obtain ⟨hP, hD⟩ := va_join (wr := [(h0, .inr (12, [.ref q1, .ref q40, .ref q45, .null, .null, .int 0, .int 0, .int 0, .int 0, .long 0])), (q1, .inr (7, [.ref q3, .ref q4, .ref q5, .ref q6, .ref q7, .ref q8, .ref q9, .ref q10, .ref q11, .int 1000, .int 0, .int 0, .int 0, .int 0, .int 0, .int 0])), (q3, .inr (11, [.ref q12, .ref q13, .ref q14, .int 0])), (q4, .inr (11, [.ref q15, .ref q16, .ref q17, .int 0])), (q5, .inl (cA37, 100, .inl (fun _ => 0))), (q6, .inr (8, [.ref q18, .int 0])), (q7, .inr (2, [.ref q19, .ref q20, .ref q21, .ref q22, .ref q23, .ref q24, .ref q25, .ref q26, .ref q27, .ref q28, .int 0, .int 0, .int 0])), (q8, .inr (3, [.ref q29, .ref q30, .ref q31, .ref q32, .ref q33, .ref q34, .int 0, .int 0, .int 0, .int 0, .int 0])), (q9, .inr (6, [.ref q35, .ref q36, .int 0, .int 0])), (q35, .inl (cA38, 40, .inl (fun _ => 0))), (q36, .inl (cA39, 40, .inl (fun _ => 0))), (q40, .inr (5, [.ref q1, .ref q42, .ref q43, .ref q44])), (q45, .inr (4, [.ref q7, .ref q47, .ref q48, .ref q49, .ref q50, .int 0, .int 0, .int 0, .int 0]))]) (w1 := [(q51, .inr (10, [.ref q53, .ref q54, .ref q55, .ref q56]))]) hP hD [13] [0, 1, 2, 3, 4, 5, 6, 7, 8, 9, 10, 11, 12] rfl rfl (by decide) (by decide) hk1 hFc hP1 hD1
  have hK := hK.app hK1
  generalize H1 = H at hP hS ⊢
  have hP : va_P (dC, dI) pcl [(h0, .inr (12, [.ref q1, .ref q40, .ref q45, .null, .null, .int 0, .int 0, .int 0, .int 0, .long 0])), (q1, .inr (7, [.ref q3, .ref q4, .ref q5, .ref q6, .ref q7, .ref q8, .ref q9, .ref q10, .ref q11, .int 1000, .int 0, .int 0, .int 0, .int 0, .int 0, .int 0])), (q3, .inr (11, [.ref q12, .ref q13, .ref q14, .int 0])), (q4, .inr (11, [.ref q15, .ref q16, .ref q17, .int 0])), (q5, .inl (cA37, 100, .inl (fun _ => 0))), (q6, .inr (8, [.ref q18, .int 0])), (q7, .inr (2, [.ref q19, .ref q20, .ref q21, .ref q22, .ref q23, .ref q24, .ref q25, .ref q26, .ref q27, .ref q28, .int 0, .int 0, .int 0])), (q8, .inr (3, [.ref q29, .ref q30, .ref q31, .ref q32, .ref q33, .ref q34, .int 0, .int 0, .int 0, .int 0, .int 0])), (q9, .inr (6, [.ref q35, .ref q36, .int 0, .int 0])), (q35, .inl (cA38, 40, .inl (fun _ => 0))), (q36, .inl (cA39, 40, .inl (fun _ => 0))), (q40, .inr (5, [.ref q1, .ref q42, .ref q43, .ref q44])), (q45, .inr (4, [.ref q7, .ref q47, .ref q48, .ref q49, .ref q50, .int 0, .int 0, .int 0, .int 0])), (q51, .inr (10, [.ref q53, .ref q54, .ref q55, .ref q56]))] H := hP
  have hD : va_D A [(h0, .inr (12, [.ref q1, .ref q40, .ref q45, .null, .null, .int 0, .int 0, .int 0, .int 0, .long 0])), (q1, .inr (7, [.ref q3, .ref q4, .ref q5, .ref q6, .ref q7, .ref q8, .ref q9, .ref q10, .ref q11, .int 1000, .int 0, .int 0, .int 0, .int 0, .int 0, .int 0])), (q3, .inr (11, [.ref q12, .ref q13, .ref q14, .int 0])), (q4, .inr (11, [.ref q15, .ref q16, .ref q17, .int 0])), (q5, .inl (cA37, 100, .inl (fun _ => 0))), (q6, .inr (8, [.ref q18, .int 0])), (q7, .inr (2, [.ref q19, .ref q20, .ref q21, .ref q22, .ref q23, .ref q24, .ref q25, .ref q26, .ref q27, .ref q28, .int 0, .int 0, .int 0])), (q8, .inr (3, [.ref q29, .ref q30, .ref q31, .ref q32, .ref q33, .ref q34, .int 0, .int 0, .int 0, .int 0, .int 0])), (q9, .inr (6, [.ref q35, .ref q36, .int 0, .int 0])), (q35, .inl (cA38, 40, .inl (fun _ => 0))), (q36, .inl (cA39, 40, .inl (fun _ => 0))), (q40, .inr (5, [.ref q1, .ref q42, .ref q43, .ref q44])), (q45, .inr (4, [.ref q7, .ref q47, .ref q48, .ref q49, .ref q50, .int 0, .int 0, .int 0, .int 0])), (q51, .inr (10, [.ref q53, .ref q54, .ref q55, .ref q56]))] := hD
  have hK : va_K (dC, dI) pcl [(cA37, .int), (cA38, .int), (cA39, .int)] s := hK
  refine W.widen (k := 121) (n := 20129) (Nat.le_of_ble_eq_true rfl) (Nat.le_of_ble_eq_true rfl) ?_
  refine va_putF (D := (dC, dI)) (ci := 12) (v := .ref q51) (ty := .object "WordFoundry$SoundCheck") (C := RX11) (T := TX11) (N := 10) hx hb hts pinX11 tyX11 tyX11_ok nmX11 hown hK hP hD hS 0 rfl rfl 3 (by decide) (hts _ e134) (fun _ h9 => h9) rfl hin rfl (by decide +kernel) rfl rfl (Nat.le_of_ble_eq_true rfl) dX11_init_59 (fun H locs hP hD hS => ?_)
  have hP : va_P (dC, dI) pcl [(h0, .inr (12, [.ref q1, .ref q40, .ref q45, .ref q51, .null, .int 0, .int 0, .int 0, .int 0, .long 0])), (q1, .inr (7, [.ref q3, .ref q4, .ref q5, .ref q6, .ref q7, .ref q8, .ref q9, .ref q10, .ref q11, .int 1000, .int 0, .int 0, .int 0, .int 0, .int 0, .int 0])), (q3, .inr (11, [.ref q12, .ref q13, .ref q14, .int 0])), (q4, .inr (11, [.ref q15, .ref q16, .ref q17, .int 0])), (q5, .inl (cA37, 100, .inl (fun _ => 0))), (q6, .inr (8, [.ref q18, .int 0])), (q7, .inr (2, [.ref q19, .ref q20, .ref q21, .ref q22, .ref q23, .ref q24, .ref q25, .ref q26, .ref q27, .ref q28, .int 0, .int 0, .int 0])), (q8, .inr (3, [.ref q29, .ref q30, .ref q31, .ref q32, .ref q33, .ref q34, .int 0, .int 0, .int 0, .int 0, .int 0])), (q9, .inr (6, [.ref q35, .ref q36, .int 0, .int 0])), (q35, .inl (cA38, 40, .inl (fun _ => 0))), (q36, .inl (cA39, 40, .inl (fun _ => 0))), (q40, .inr (5, [.ref q1, .ref q42, .ref q43, .ref q44])), (q45, .inr (4, [.ref q7, .ref q47, .ref q48, .ref q49, .ref q50, .int 0, .int 0, .int 0, .int 0])), (q51, .inr (10, [.ref q53, .ref q54, .ref q55, .ref q56]))] H := hP
  have hD : va_D A [(h0, .inr (12, [.ref q1, .ref q40, .ref q45, .ref q51, .null, .int 0, .int 0, .int 0, .int 0, .long 0])), (q1, .inr (7, [.ref q3, .ref q4, .ref q5, .ref q6, .ref q7, .ref q8, .ref q9, .ref q10, .ref q11, .int 1000, .int 0, .int 0, .int 0, .int 0, .int 0, .int 0])), (q3, .inr (11, [.ref q12, .ref q13, .ref q14, .int 0])), (q4, .inr (11, [.ref q15, .ref q16, .ref q17, .int 0])), (q5, .inl (cA37, 100, .inl (fun _ => 0))), (q6, .inr (8, [.ref q18, .int 0])), (q7, .inr (2, [.ref q19, .ref q20, .ref q21, .ref q22, .ref q23, .ref q24, .ref q25, .ref q26, .ref q27, .ref q28, .int 0, .int 0, .int 0])), (q8, .inr (3, [.ref q29, .ref q30, .ref q31, .ref q32, .ref q33, .ref q34, .int 0, .int 0, .int 0, .int 0, .int 0])), (q9, .inr (6, [.ref q35, .ref q36, .int 0, .int 0])), (q35, .inl (cA38, 40, .inl (fun _ => 0))), (q36, .inl (cA39, 40, .inl (fun _ => 0))), (q40, .inr (5, [.ref q1, .ref q42, .ref q43, .ref q44])), (q45, .inr (4, [.ref q7, .ref q47, .ref q48, .ref q49, .ref q50, .int 0, .int 0, .int 0, .int 0])), (q51, .inr (10, [.ref q53, .ref q54, .ref q55, .ref q56]))] := hD
  refine lv_aload_n hx hb dX11_init_62 rfl (lv_at hl 0 rfl) ?_
  refine lv_bipush (v := 30) hx hb dX11_init_63 (by decide) ?_
  refine va_newa (atype := .int) (N' := 30) (a0 := (30, .inl (fun _ => 0))) hx hb (hts _ e3) rfl hK hP hD hS hA (fun _ => rfl) (by decide) (by decide) (Nat.le_of_ble_eq_true rfl) (Nat.le_of_ble_eq_true rfl) (Nat.le_of_ble_eq_true rfl) dX11_init_65 (fun q57 cA58 H hK hP hD hS => ?_)
  have hP : va_P (dC, dI) pcl [(h0, .inr (12, [.ref q1, .ref q40, .ref q45, .ref q51, .null, .int 0, .int 0, .int 0, .int 0, .long 0])), (q1, .inr (7, [.ref q3, .ref q4, .ref q5, .ref q6, .ref q7, .ref q8, .ref q9, .ref q10, .ref q11, .int 1000, .int 0, .int 0, .int 0, .int 0, .int 0, .int 0])), (q3, .inr (11, [.ref q12, .ref q13, .ref q14, .int 0])), (q4, .inr (11, [.ref q15, .ref q16, .ref q17, .int 0])), (q5, .inl (cA37, 100, .inl (fun _ => 0))), (q6, .inr (8, [.ref q18, .int 0])), (q7, .inr (2, [.ref q19, .ref q20, .ref q21, .ref q22, .ref q23, .ref q24, .ref q25, .ref q26, .ref q27, .ref q28, .int 0, .int 0, .int 0])), (q8, .inr (3, [.ref q29, .ref q30, .ref q31, .ref q32, .ref q33, .ref q34, .int 0, .int 0, .int 0, .int 0, .int 0])), (q9, .inr (6, [.ref q35, .ref q36, .int 0, .int 0])), (q35, .inl (cA38, 40, .inl (fun _ => 0))), (q36, .inl (cA39, 40, .inl (fun _ => 0))), (q40, .inr (5, [.ref q1, .ref q42, .ref q43, .ref q44])), (q45, .inr (4, [.ref q7, .ref q47, .ref q48, .ref q49, .ref q50, .int 0, .int 0, .int 0, .int 0])), (q51, .inr (10, [.ref q53, .ref q54, .ref q55, .ref q56])), (q57, .inl (cA58, 30, .inl (fun _ => 0)))] H := hP
  have hD : va_D A [(h0, .inr (12, [.ref q1, .ref q40, .ref q45, .ref q51, .null, .int 0, .int 0, .int 0, .int 0, .long 0])), (q1, .inr (7, [.ref q3, .ref q4, .ref q5, .ref q6, .ref q7, .ref q8, .ref q9, .ref q10, .ref q11, .int 1000, .int 0, .int 0, .int 0, .int 0, .int 0, .int 0])), (q3, .inr (11, [.ref q12, .ref q13, .ref q14, .int 0])), (q4, .inr (11, [.ref q15, .ref q16, .ref q17, .int 0])), (q5, .inl (cA37, 100, .inl (fun _ => 0))), (q6, .inr (8, [.ref q18, .int 0])), (q7, .inr (2, [.ref q19, .ref q20, .ref q21, .ref q22, .ref q23, .ref q24, .ref q25, .ref q26, .ref q27, .ref q28, .int 0, .int 0, .int 0])), (q8, .inr (3, [.ref q29, .ref q30, .ref q31, .ref q32, .ref q33, .ref q34, .int 0, .int 0, .int 0, .int 0, .int 0])), (q9, .inr (6, [.ref q35, .ref q36, .int 0, .int 0])), (q35, .inl (cA38, 40, .inl (fun _ => 0))), (q36, .inl (cA39, 40, .inl (fun _ => 0))), (q40, .inr (5, [.ref q1, .ref q42, .ref q43, .ref q44])), (q45, .inr (4, [.ref q7, .ref q47, .ref q48, .ref q49, .ref q50, .int 0, .int 0, .int 0, .int 0])), (q51, .inr (10, [.ref q53, .ref q54, .ref q55, .ref q56])), (q57, .inl (cA58, 30, .inl (fun _ => 0)))] := hD
  have hK : va_K (dC, dI) pcl [(cA37, .int), (cA38, .int), (cA39, .int), (cA58, .int)] s := hK
  refine W.widen (k := 122) (n := 20159) (Nat.le_of_ble_eq_true rfl) (Nat.le_of_ble_eq_true rfl) ?_
  refine va_putF (D := (dC, dI)) (ci := 12) (v := .ref q57) (ty := .array .int) (C := RX11) (T := TX11) (N := 10) hx hb hts pinX11 tyX11 tyX11_ok nmX11 hown hK hP hD hS 0 rfl rfl 4 (by decide) (hts _ e135) (fun _ h9 => h9) rfl hin rfl (by decide +kernel) rfl rfl (Nat.le_of_ble_eq_true rfl) dX11_init_67 (fun H locs hP hD hS => ?_)
  have hP : va_P (dC, dI) pcl [(h0, .inr (12, [.ref q1, .ref q40, .ref q45, .ref q51, .ref q57, .int 0, .int 0, .int 0, .int 0, .long 0])), (q1, .inr (7, [.ref q3, .ref q4, .ref q5, .ref q6, .ref q7, .ref q8, .ref q9, .ref q10, .ref q11, .int 1000, .int 0, .int 0, .int 0, .int 0, .int 0, .int 0])), (q3, .inr (11, [.ref q12, .ref q13, .ref q14, .int 0])), (q4, .inr (11, [.ref q15, .ref q16, .ref q17, .int 0])), (q5, .inl (cA37, 100, .inl (fun _ => 0))), (q6, .inr (8, [.ref q18, .int 0])), (q7, .inr (2, [.ref q19, .ref q20, .ref q21, .ref q22, .ref q23, .ref q24, .ref q25, .ref q26, .ref q27, .ref q28, .int 0, .int 0, .int 0])), (q8, .inr (3, [.ref q29, .ref q30, .ref q31, .ref q32, .ref q33, .ref q34, .int 0, .int 0, .int 0, .int 0, .int 0])), (q9, .inr (6, [.ref q35, .ref q36, .int 0, .int 0])), (q35, .inl (cA38, 40, .inl (fun _ => 0))), (q36, .inl (cA39, 40, .inl (fun _ => 0))), (q40, .inr (5, [.ref q1, .ref q42, .ref q43, .ref q44])), (q45, .inr (4, [.ref q7, .ref q47, .ref q48, .ref q49, .ref q50, .int 0, .int 0, .int 0, .int 0])), (q51, .inr (10, [.ref q53, .ref q54, .ref q55, .ref q56])), (q57, .inl (cA58, 30, .inl (fun _ => 0)))] H := hP
  have hD : va_D A [(h0, .inr (12, [.ref q1, .ref q40, .ref q45, .ref q51, .ref q57, .int 0, .int 0, .int 0, .int 0, .long 0])), (q1, .inr (7, [.ref q3, .ref q4, .ref q5, .ref q6, .ref q7, .ref q8, .ref q9, .ref q10, .ref q11, .int 1000, .int 0, .int 0, .int 0, .int 0, .int 0, .int 0])), (q3, .inr (11, [.ref q12, .ref q13, .ref q14, .int 0])), (q4, .inr (11, [.ref q15, .ref q16, .ref q17, .int 0])), (q5, .inl (cA37, 100, .inl (fun _ => 0))), (q6, .inr (8, [.ref q18, .int 0])), (q7, .inr (2, [.ref q19, .ref q20, .ref q21, .ref q22, .ref q23, .ref q24, .ref q25, .ref q26, .ref q27, .ref q28, .int 0, .int 0, .int 0])), (q8, .inr (3, [.ref q29, .ref q30, .ref q31, .ref q32, .ref q33, .ref q34, .int 0, .int 0, .int 0, .int 0, .int 0])), (q9, .inr (6, [.ref q35, .ref q36, .int 0, .int 0])), (q35, .inl (cA38, 40, .inl (fun _ => 0))), (q36, .inl (cA39, 40, .inl (fun _ => 0))), (q40, .inr (5, [.ref q1, .ref q42, .ref q43, .ref q44])), (q45, .inr (4, [.ref q7, .ref q47, .ref q48, .ref q49, .ref q50, .int 0, .int 0, .int 0, .int 0])), (q51, .inr (10, [.ref q53, .ref q54, .ref q55, .ref q56])), (q57, .inl (cA58, 30, .inl (fun _ => 0)))] := hD
  have hP9 := hP.sub (ws' := [(h0, .inr (12, [.ref q1, .ref q40, .ref q45, .ref q51, .ref q57, .int 0, .int 0, .int 0, .int 0, .long 0])), (q45, .inr (4, [.ref q7, .ref q47, .ref q48, .ref q49, .ref q50, .int 0, .int 0, .int 0, .int 0])), (q1, .inr (7, [.ref q3, .ref q4, .ref q5, .ref q6, .ref q7, .ref q8, .ref q9, .ref q10, .ref q11, .int 1000, .int 0, .int 0, .int 0, .int 0, .int 0, .int 0])), (q3, .inr (11, [.ref q12, .ref q13, .ref q14, .int 0])), (q4, .inr (11, [.ref q15, .ref q16, .ref q17, .int 0])), (q5, .inl (cA37, 100, .inl (fun _ => 0))), (q6, .inr (8, [.ref q18, .int 0])), (q7, .inr (2, [.ref q19, .ref q20, .ref q21, .ref q22, .ref q23, .ref q24, .ref q25, .ref q26, .ref q27, .ref q28, .int 0, .int 0, .int 0])), (q8, .inr (3, [.ref q29, .ref q30, .ref q31, .ref q32, .ref q33, .ref q34, .int 0, .int 0, .int 0, .int 0, .int 0])), (q9, .inr (6, [.ref q35, .ref q36, .int 0, .int 0])), (q35, .inl (cA38, 40, .inl (fun _ => 0))), (q36, .inl (cA39, 40, .inl (fun _ => 0)))]) [0, 12, 1, 2, 3, 4, 5, 6, 7, 8, 9, 10] rfl
  have hD9 := hD.sub (ws' := [(h0, .inr (12, [.ref q1, .ref q40, .ref q45, .ref q51, .ref q57, .int 0, .int 0, .int 0, .int 0, .long 0])), (q45, .inr (4, [.ref q7, .ref q47, .ref q48, .ref q49, .ref q50, .int 0, .int 0, .int 0, .int 0])), (q1, .inr (7, [.ref q3, .ref q4, .ref q5, .ref q6, .ref q7, .ref q8, .ref q9, .ref q10, .ref q11, .int 1000, .int 0, .int 0, .int 0, .int 0, .int 0, .int 0])), (q3, .inr (11, [.ref q12, .ref q13, .ref q14, .int 0])), (q4, .inr (11, [.ref q15, .ref q16, .ref q17, .int 0])), (q5, .inl (cA37, 100, .inl (fun _ => 0))), (q6, .inr (8, [.ref q18, .int 0])), (q7, .inr (2, [.ref q19, .ref q20, .ref q21, .ref q22, .ref q23, .ref q24, .ref q25, .ref q26, .ref q27, .ref q28, .int 0, .int 0, .int 0])), (q8, .inr (3, [.ref q29, .ref q30, .ref q31, .ref q32, .ref q33, .ref q34, .int 0, .int 0, .int 0, .int 0, .int 0])), (q9, .inr (6, [.ref q35, .ref q36, .int 0, .int 0])), (q35, .inl (cA38, 40, .inl (fun _ => 0))), (q36, .inl (cA39, 40, .inl (fun _ => 0)))]) [0, 12, 1, 2, 3, 4, 5, 6, 7, 8, 9, 10] (by decide) rfl
  have hK9 := hK.sub (tys' := [(cA37, .int), (cA38, .int), (cA39, .int)]) [0, 1, 2] rfl
  refine W.widen (k := 122) (n := 20159) (Nat.le_of_ble_eq_true rfl) (Nat.le_of_ble_eq_true rfl) ?_
  exact W.vret hx hb hr (fun t ht hW => ⟨⟨(), rfl, trivial, q1, q40, q45, q51, q57, q47, q48, q49, q50, q3, q4, q5, q6, q7, q8, q9, q10, q11, q12, q13, q14, q15, q16, q17, q18, q19, q20, q21, q22, q23, q24, q25, q26, q27, q28, q29, q30, q31, q32, q33, q34, q35, q36, cA37, cA38, cA39, by rw [ht]; exact hP9, va_K.moved hW.alike hK9, hD9⟩, hS.F ht⟩) hS.2.2 dX11_init_70
end
