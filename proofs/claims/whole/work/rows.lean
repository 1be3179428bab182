section
-- ===== PART A: goes FIRST, ahead of the names: the tables' words, and 'selects' of the private methods out of them =====
/-- a private method of a class that the tables say can be made, by its rows of tables_1 -/
def lw_okq (q : MethodName × Nat) : Prop := (q.1.cls ≠ "java/lang/invoke/MethodHandle" ∧ q.1.cls ≠ "java/lang/invoke/VarHandle") ∧ Cond.instantiable q.1.cls q.2 ∈ tables_1 ∧ Cond.privateMethod q.1 ∈ tables_1 ∧ Cond.instanceMethod q.1 ∈ tables_1
theorem lw_p0 : lw_okq (⟨"PantographArm", "remember", "()V"⟩, 4) := ⟨⟨by decide +kernel, by decide +kernel⟩, List.mem_of_getElem? (i := 9) (by decide +kernel), List.mem_of_getElem? (i := 190) (by decide +kernel), List.mem_of_getElem? (i := 191) (by decide +kernel)⟩
theorem lw_p1 : lw_okq (⟨"PantographArm", "dropOldest", "()V"⟩, 4) := ⟨⟨by decide +kernel, by decide +kernel⟩, List.mem_of_getElem? (i := 9) (by decide +kernel), List.mem_of_getElem? (i := 194) (by decide +kernel), List.mem_of_getElem? (i := 195) (by decide +kernel)⟩
theorem lw_p2 : lw_okq (⟨"PantographArm$PointText", "parsePoint", "(Z)V"⟩, 9) := ⟨⟨by decide +kernel, by decide +kernel⟩, List.mem_of_getElem? (i := 130) (by decide +kernel), List.mem_of_getElem? (i := 503) (by decide +kernel), List.mem_of_getElem? (i := 504) (by decide +kernel)⟩
theorem lw_p3 : lw_okq (⟨"PantographArm$PointText", "here", "()C"⟩, 9) := ⟨⟨by decide +kernel, by decide +kernel⟩, List.mem_of_getElem? (i := 130) (by decide +kernel), List.mem_of_getElem? (i := 507) (by decide +kernel), List.mem_of_getElem? (i := 508) (by decide +kernel)⟩
theorem lw_p4 : lw_okq (⟨"PantographArm$PointText", "fail", "(II)V"⟩, 9) := ⟨⟨by decide +kernel, by decide +kernel⟩, List.mem_of_getElem? (i := 130) (by decide +kernel), List.mem_of_getElem? (i := 514) (by decide +kernel), List.mem_of_getElem? (i := 515) (by decide +kernel)⟩
theorem lw_p5 : lw_okq (⟨"PantographArm$PointText", "parseNumber", "()I"⟩, 9) := ⟨⟨by decide +kernel, by decide +kernel⟩, List.mem_of_getElem? (i := 130) (by decide +kernel), List.mem_of_getElem? (i := 518) (by decide +kernel), List.mem_of_getElem? (i := 519) (by decide +kernel)⟩
theorem lw_p6 : lw_okq (⟨"PantographArm$PointText", "failHere", "()V"⟩, 9) := ⟨⟨by decide +kernel, by decide +kernel⟩, List.mem_of_getElem? (i := 130) (by decide +kernel), List.mem_of_getElem? (i := 522) (by decide +kernel), List.mem_of_getElem? (i := 523) (by decide +kernel)⟩
theorem lw_p7 : lw_okq (⟨"PantographArm$PointText", "expect", "(C)V"⟩, 9) := ⟨⟨by decide +kernel, by decide +kernel⟩, List.mem_of_getElem? (i := 130) (by decide +kernel), List.mem_of_getElem? (i := 526) (by decide +kernel), List.mem_of_getElem? (i := 527) (by decide +kernel)⟩
theorem lw_p8 : lw_okq (⟨"PantographArm$PointText", "accept", "(C)Z"⟩, 9) := ⟨⟨by decide +kernel, by decide +kernel⟩, List.mem_of_getElem? (i := 130) (by decide +kernel), List.mem_of_getElem? (i := 530) (by decide +kernel), List.mem_of_getElem? (i := 531) (by decide +kernel)⟩
theorem lw_p9 : lw_okq (⟨"PantographArmModel", "keep", "()V"⟩, 12) := ⟨⟨by decide +kernel, by decide +kernel⟩, List.mem_of_getElem? (i := 543) (by decide +kernel), List.mem_of_getElem? (i := 596) (by decide +kernel), List.mem_of_getElem? (i := 597) (by decide +kernel)⟩
theorem lw_p10 : lw_okq (⟨"PantographArmModel", "of", "(I)I"⟩, 12) := ⟨⟨by decide +kernel, by decide +kernel⟩, List.mem_of_getElem? (i := 543) (by decide +kernel), List.mem_of_getElem? (i := 603) (by decide +kernel), List.mem_of_getElem? (i := 604) (by decide +kernel)⟩
theorem lw_p11 : lw_okq (⟨"PantographArmModel", "isBlunt", "()Z"⟩, 12) := ⟨⟨by decide +kernel, by decide +kernel⟩, List.mem_of_getElem? (i := 543) (by decide +kernel), List.mem_of_getElem? (i := 622) (by decide +kernel), List.mem_of_getElem? (i := 623) (by decide +kernel)⟩
theorem lw_p12 : lw_okq (⟨"PantographArmModel", "begins", "()I"⟩, 12) := ⟨⟨by decide +kernel, by decide +kernel⟩, List.mem_of_getElem? (i := 543) (by decide +kernel), List.mem_of_getElem? (i := 638) (by decide +kernel), List.mem_of_getElem? (i := 639) (by decide +kernel)⟩
theorem lw_p13 : lw_okq (⟨"PantographArmModel", "isDrawing", "(I)Z"⟩, 12) := ⟨⟨by decide +kernel, by decide +kernel⟩, List.mem_of_getElem? (i := 543) (by decide +kernel), List.mem_of_getElem? (i := 650) (by decide +kernel), List.mem_of_getElem? (i := 651) (by decide +kernel)⟩
theorem lw_p14 : lw_okq (⟨"PantographArmModel", "isCopied", "(I)Z"⟩, 12) := ⟨⟨by decide +kernel, by decide +kernel⟩, List.mem_of_getElem? (i := 543) (by decide +kernel), List.mem_of_getElem? (i := 654) (by decide +kernel), List.mem_of_getElem? (i := 655) (by decide +kernel)⟩
theorem lw_p15 : lw_okq (⟨"PantographArmModel", "points", "(I)I"⟩, 12) := ⟨⟨by decide +kernel, by decide +kernel⟩, List.mem_of_getElem? (i := 543) (by decide +kernel), List.mem_of_getElem? (i := 659) (by decide +kernel), List.mem_of_getElem? (i := 660) (by decide +kernel)⟩
def lw_privs_1 : List (MethodName × Nat) := [(⟨"PantographArm", "remember", "()V"⟩, 4), (⟨"PantographArm", "dropOldest", "()V"⟩, 4), (⟨"PantographArm$PointText", "parsePoint", "(Z)V"⟩, 9), (⟨"PantographArm$PointText", "here", "()C"⟩, 9), (⟨"PantographArm$PointText", "fail", "(II)V"⟩, 9), (⟨"PantographArm$PointText", "parseNumber", "()I"⟩, 9), (⟨"PantographArm$PointText", "failHere", "()V"⟩, 9), (⟨"PantographArm$PointText", "expect", "(C)V"⟩, 9), (⟨"PantographArm$PointText", "accept", "(C)Z"⟩, 9), (⟨"PantographArmModel", "keep", "()V"⟩, 12), (⟨"PantographArmModel", "of", "(I)I"⟩, 12), (⟨"PantographArmModel", "isBlunt", "()Z"⟩, 12), (⟨"PantographArmModel", "begins", "()I"⟩, 12), (⟨"PantographArmModel", "isDrawing", "(I)Z"⟩, 12), (⟨"PantographArmModel", "isCopied", "(I)Z"⟩, 12), (⟨"PantographArmModel", "points", "(I)I"⟩, 12)]
theorem lw_r1 : ∀ q ∈ lw_privs_1, lw_okq q := List.forall_mem_cons.mpr ⟨lw_p0, List.forall_mem_cons.mpr ⟨lw_p1, List.forall_mem_cons.mpr ⟨lw_p2, List.forall_mem_cons.mpr ⟨lw_p3, List.forall_mem_cons.mpr ⟨lw_p4, List.forall_mem_cons.mpr ⟨lw_p5, List.forall_mem_cons.mpr ⟨lw_p6, List.forall_mem_cons.mpr ⟨lw_p7, List.forall_mem_cons.mpr ⟨lw_p8, List.forall_mem_cons.mpr ⟨lw_p9, List.forall_mem_cons.mpr ⟨lw_p10, List.forall_mem_cons.mpr ⟨lw_p11, List.forall_mem_cons.mpr ⟨lw_p12, List.forall_mem_cons.mpr ⟨lw_p13, List.forall_mem_cons.mpr ⟨lw_p14, List.forall_mem_cons.mpr ⟨lw_p15, fun _ h => absurd h List.not_mem_nil⟩⟩⟩⟩⟩⟩⟩⟩⟩⟩⟩⟩⟩⟩⟩⟩
theorem lw_p16 : lw_okq (⟨"PantographArmModel", "adds", "(IIII)V"⟩, 12) := ⟨⟨by decide +kernel, by decide +kernel⟩, List.mem_of_getElem? (i := 543) (by decide +kernel), List.mem_of_getElem? (i := 663) (by decide +kernel), List.mem_of_getElem? (i := 664) (by decide +kernel)⟩
theorem lw_p17 : lw_okq (⟨"PantographArmModel", "lengthTo", "(II)I"⟩, 12) := ⟨⟨by decide +kernel, by decide +kernel⟩, List.mem_of_getElem? (i := 543) (by decide +kernel), List.mem_of_getElem? (i := 670) (by decide +kernel), List.mem_of_getElem? (i := 671) (by decide +kernel)⟩
theorem lw_p18 : lw_okq (⟨"PantographArmModel", "plus", "(JJJJJ)V"⟩, 12) := ⟨⟨by decide +kernel, by decide +kernel⟩, List.mem_of_getElem? (i := 543) (by decide +kernel), List.mem_of_getElem? (i := 674) (by decide +kernel), List.mem_of_getElem? (i := 675) (by decide +kernel)⟩
theorem lw_p19 : lw_okq (⟨"PantographArmModel", "reduce", "(JJ)V"⟩, 12) := ⟨⟨by decide +kernel, by decide +kernel⟩, List.mem_of_getElem? (i := 543) (by decide +kernel), List.mem_of_getElem? (i := 684) (by decide +kernel), List.mem_of_getElem? (i := 685) (by decide +kernel)⟩
theorem lw_p20 : lw_okq (⟨"PantographArmModel", "reason", "(I)I"⟩, 12) := ⟨⟨by decide +kernel, by decide +kernel⟩, List.mem_of_getElem? (i := 543) (by decide +kernel), List.mem_of_getElem? (i := 696) (by decide +kernel), List.mem_of_getElem? (i := 697) (by decide +kernel)⟩
theorem lw_p21 : lw_okq (⟨"PantographArmModel", "copies", "(I)Z"⟩, 12) := ⟨⟨by decide +kernel, by decide +kernel⟩, List.mem_of_getElem? (i := 543) (by decide +kernel), List.mem_of_getElem? (i := 700) (by decide +kernel), List.mem_of_getElem? (i := 701) (by decide +kernel)⟩
theorem lw_p22 : lw_okq (⟨"PantographArmModel", "put", "(I)V"⟩, 12) := ⟨⟨by decide +kernel, by decide +kernel⟩, List.mem_of_getElem? (i := 543) (by decide +kernel), List.mem_of_getElem? (i := 704) (by decide +kernel), List.mem_of_getElem? (i := 705) (by decide +kernel)⟩
theorem lw_p23 : lw_okq (⟨"PantographArmModel", "signOf", "(I)I"⟩, 12) := ⟨⟨by decide +kernel, by decide +kernel⟩, List.mem_of_getElem? (i := 543) (by decide +kernel), List.mem_of_getElem? (i := 709) (by decide +kernel), List.mem_of_getElem? (i := 710) (by decide +kernel)⟩
theorem lw_p24 : lw_okq (⟨"PantographArmModel", "shift", "(III)V"⟩, 12) := ⟨⟨by decide +kernel, by decide +kernel⟩, List.mem_of_getElem? (i := 543) (by decide +kernel), List.mem_of_getElem? (i := 714) (by decide +kernel), List.mem_of_getElem? (i := 715) (by decide +kernel)⟩
theorem lw_p25 : lw_okq (⟨"PantographArmModel", "aim", "(IJJ)V"⟩, 12) := ⟨⟨by decide +kernel, by decide +kernel⟩, List.mem_of_getElem? (i := 543) (by decide +kernel), List.mem_of_getElem? (i := 718) (by decide +kernel), List.mem_of_getElem? (i := 719) (by decide +kernel)⟩
theorem lw_p26 : lw_okq (⟨"PantographArmModel", "trace", "(III)V"⟩, 12) := ⟨⟨by decide +kernel, by decide +kernel⟩, List.mem_of_getElem? (i := 543) (by decide +kernel), List.mem_of_getElem? (i := 722) (by decide +kernel), List.mem_of_getElem? (i := 723) (by decide +kernel)⟩
theorem lw_p27 : lw_okq (⟨"PantographArmModel", "follow", "(JJ)V"⟩, 12) := ⟨⟨by decide +kernel, by decide +kernel⟩, List.mem_of_getElem? (i := 543) (by decide +kernel), List.mem_of_getElem? (i := 726) (by decide +kernel), List.mem_of_getElem? (i := 727) (by decide +kernel)⟩
theorem lw_p28 : lw_okq (⟨"PantographArmModel", "line", "(II)V"⟩, 12) := ⟨⟨by decide +kernel, by decide +kernel⟩, List.mem_of_getElem? (i := 543) (by decide +kernel), List.mem_of_getElem? (i := 734) (by decide +kernel), List.mem_of_getElem? (i := 735) (by decide +kernel)⟩
theorem lw_p29 : lw_okq (⟨"PantographArmModel", "isOnBoard", "(II)Z"⟩, 12) := ⟨⟨by decide +kernel, by decide +kernel⟩, List.mem_of_getElem? (i := 543) (by decide +kernel), List.mem_of_getElem? (i := 738) (by decide +kernel), List.mem_of_getElem? (i := 739) (by decide +kernel)⟩
theorem lw_p30 : lw_okq (⟨"PantographArmModel", "drawingOf", "(II)I"⟩, 12) := ⟨⟨by decide +kernel, by decide +kernel⟩, List.mem_of_getElem? (i := 543) (by decide +kernel), List.mem_of_getElem? (i := 746) (by decide +kernel), List.mem_of_getElem? (i := 747) (by decide +kernel)⟩
theorem lw_p31 : lw_okq (⟨"PantographArmModel", "root", "(I)I"⟩, 12) := ⟨⟨by decide +kernel, by decide +kernel⟩, List.mem_of_getElem? (i := 543) (by decide +kernel), List.mem_of_getElem? (i := 751) (by decide +kernel), List.mem_of_getElem? (i := 752) (by decide +kernel)⟩
def lw_privs_2 : List (MethodName × Nat) := [(⟨"PantographArmModel", "adds", "(IIII)V"⟩, 12), (⟨"PantographArmModel", "lengthTo", "(II)I"⟩, 12), (⟨"PantographArmModel", "plus", "(JJJJJ)V"⟩, 12), (⟨"PantographArmModel", "reduce", "(JJ)V"⟩, 12), (⟨"PantographArmModel", "reason", "(I)I"⟩, 12), (⟨"PantographArmModel", "copies", "(I)Z"⟩, 12), (⟨"PantographArmModel", "put", "(I)V"⟩, 12), (⟨"PantographArmModel", "signOf", "(I)I"⟩, 12), (⟨"PantographArmModel", "shift", "(III)V"⟩, 12), (⟨"PantographArmModel", "aim", "(IJJ)V"⟩, 12), (⟨"PantographArmModel", "trace", "(III)V"⟩, 12), (⟨"PantographArmModel", "follow", "(JJ)V"⟩, 12), (⟨"PantographArmModel", "line", "(II)V"⟩, 12), (⟨"PantographArmModel", "isOnBoard", "(II)Z"⟩, 12), (⟨"PantographArmModel", "drawingOf", "(II)I"⟩, 12), (⟨"PantographArmModel", "root", "(I)I"⟩, 12)]
theorem lw_r2 : ∀ q ∈ lw_privs_2, lw_okq q := List.forall_mem_cons.mpr ⟨lw_p16, List.forall_mem_cons.mpr ⟨lw_p17, List.forall_mem_cons.mpr ⟨lw_p18, List.forall_mem_cons.mpr ⟨lw_p19, List.forall_mem_cons.mpr ⟨lw_p20, List.forall_mem_cons.mpr ⟨lw_p21, List.forall_mem_cons.mpr ⟨lw_p22, List.forall_mem_cons.mpr ⟨lw_p23, List.forall_mem_cons.mpr ⟨lw_p24, List.forall_mem_cons.mpr ⟨lw_p25, List.forall_mem_cons.mpr ⟨lw_p26, List.forall_mem_cons.mpr ⟨lw_p27, List.forall_mem_cons.mpr ⟨lw_p28, List.forall_mem_cons.mpr ⟨lw_p29, List.forall_mem_cons.mpr ⟨lw_p30, List.forall_mem_cons.mpr ⟨lw_p31, fun _ h => absurd h List.not_mem_nil⟩⟩⟩⟩⟩⟩⟩⟩⟩⟩⟩⟩⟩⟩⟩⟩
theorem lw_p32 : lw_okq (⟨"PantographArmModel", "steps", "(I)I"⟩, 12) := ⟨⟨by decide +kernel, by decide +kernel⟩, List.mem_of_getElem? (i := 543) (by decide +kernel), List.mem_of_getElem? (i := 755) (by decide +kernel), List.mem_of_getElem? (i := 756) (by decide +kernel)⟩
theorem lw_p33 : lw_okq (⟨"PantographArmModel", "offBoard", "(I)I"⟩, 12) := ⟨⟨by decide +kernel, by decide +kernel⟩, List.mem_of_getElem? (i := 543) (by decide +kernel), List.mem_of_getElem? (i := 759) (by decide +kernel), List.mem_of_getElem? (i := 760) (by decide +kernel)⟩
theorem lw_p34 : lw_okq (⟨"PantographArmModel", "ratioOf", "(I)F"⟩, 12) := ⟨⟨by decide +kernel, by decide +kernel⟩, List.mem_of_getElem? (i := 543) (by decide +kernel), List.mem_of_getElem? (i := 763) (by decide +kernel), List.mem_of_getElem? (i := 764) (by decide +kernel)⟩
theorem lw_p35 : lw_okq (⟨"PantographArmModel", "lines", "(II)I"⟩, 12) := ⟨⟨by decide +kernel, by decide +kernel⟩, List.mem_of_getElem? (i := 543) (by decide +kernel), List.mem_of_getElem? (i := 778) (by decide +kernel), List.mem_of_getElem? (i := 779) (by decide +kernel)⟩
theorem lw_p36 : lw_okq (⟨"PantographArmModel", "isPoint", "(II)Z"⟩, 12) := ⟨⟨by decide +kernel, by decide +kernel⟩, List.mem_of_getElem? (i := 543) (by decide +kernel), List.mem_of_getElem? (i := 790) (by decide +kernel), List.mem_of_getElem? (i := 791) (by decide +kernel)⟩
theorem lw_p37 : lw_okq (⟨"PantographArmModel", "readText", "()I"⟩, 12) := ⟨⟨by decide +kernel, by decide +kernel⟩, List.mem_of_getElem? (i := 543) (by decide +kernel), List.mem_of_getElem? (i := 824) (by decide +kernel), List.mem_of_getElem? (i := 825) (by decide +kernel)⟩
theorem lw_p38 : lw_okq (⟨"PantographArmModel", "readPoint", "(II)Z"⟩, 12) := ⟨⟨by decide +kernel, by decide +kernel⟩, List.mem_of_getElem? (i := 543) (by decide +kernel), List.mem_of_getElem? (i := 828) (by decide +kernel), List.mem_of_getElem? (i := 829) (by decide +kernel)⟩
theorem lw_p39 : lw_okq (⟨"PantographArmModel", "here", "()I"⟩, 12) := ⟨⟨by decide +kernel, by decide +kernel⟩, List.mem_of_getElem? (i := 543) (by decide +kernel), List.mem_of_getElem? (i := 832) (by decide +kernel), List.mem_of_getElem? (i := 833) (by decide +kernel)⟩
theorem lw_p40 : lw_okq (⟨"PantographArmModel", "readNumber", "()Z"⟩, 12) := ⟨⟨by decide +kernel, by decide +kernel⟩, List.mem_of_getElem? (i := 543) (by decide +kernel), List.mem_of_getElem? (i := 836) (by decide +kernel), List.mem_of_getElem? (i := 837) (by decide +kernel)⟩
theorem lw_p41 : lw_okq (⟨"PantographArmModel", "isFault", "()Z"⟩, 12) := ⟨⟨by decide +kernel, by decide +kernel⟩, List.mem_of_getElem? (i := 543) (by decide +kernel), List.mem_of_getElem? (i := 840) (by decide +kernel), List.mem_of_getElem? (i := 841) (by decide +kernel)⟩
def lw_privs_3 : List (MethodName × Nat) := [(⟨"PantographArmModel", "steps", "(I)I"⟩, 12), (⟨"PantographArmModel", "offBoard", "(I)I"⟩, 12), (⟨"PantographArmModel", "ratioOf", "(I)F"⟩, 12), (⟨"PantographArmModel", "lines", "(II)I"⟩, 12), (⟨"PantographArmModel", "isPoint", "(II)Z"⟩, 12), (⟨"PantographArmModel", "readText", "()I"⟩, 12), (⟨"PantographArmModel", "readPoint", "(II)Z"⟩, 12), (⟨"PantographArmModel", "here", "()I"⟩, 12), (⟨"PantographArmModel", "readNumber", "()Z"⟩, 12), (⟨"PantographArmModel", "isFault", "()Z"⟩, 12)]
theorem lw_r3 : ∀ q ∈ lw_privs_3, lw_okq q := List.forall_mem_cons.mpr ⟨lw_p32, List.forall_mem_cons.mpr ⟨lw_p33, List.forall_mem_cons.mpr ⟨lw_p34, List.forall_mem_cons.mpr ⟨lw_p35, List.forall_mem_cons.mpr ⟨lw_p36, List.forall_mem_cons.mpr ⟨lw_p37, List.forall_mem_cons.mpr ⟨lw_p38, List.forall_mem_cons.mpr ⟨lw_p39, List.forall_mem_cons.mpr ⟨lw_p40, List.forall_mem_cons.mpr ⟨lw_p41, fun _ h => absurd h List.not_mem_nil⟩⟩⟩⟩⟩⟩⟩⟩⟩⟩
def lw_privs : List (MethodName × Nat) := lw_privs_1 ++ (lw_privs_2 ++ (lw_privs_3))
def lw_tbl : List Cond := k2_sels lw_privs ++ tables_1
theorem lw_privs_ok : ∀ q ∈ lw_privs, lw_okq q := by
  show ∀ q ∈ lw_privs_1 ++ (lw_privs_2 ++ (lw_privs_3)), lw_okq q
  exact List.forall_mem_append.mpr ⟨lw_r1, List.forall_mem_append.mpr ⟨lw_r2, lw_r3⟩⟩
/-- the streams that the claim lets the run draw from -/
abbrev lw_cs : List Choice := [Jvm.Choice.named "NaN.bits"]
theorem lw_bits : nanBits ∈ lw_cs := by first | decide | exact List.mem_cons_self | simp [lw_cs, nanBits]
-- ===== end of PART A; then your names; then what follows =====
end
section
def RX0 : String := "PantographArm$Desk"
def TX0 : u_T := fun k => match k with
  | 0 => ("PantographArm$Desk", "a", "I", false)
  | 1 => ("PantographArm$Desk", "b", "I", false)
  | 2 => ("PantographArm$Desk", "pivotX", "I", false)
  | 3 => ("PantographArm$Desk", "pivotY", "I", false)
  | 4 => ("PantographArm$Desk", "settings", "[I", true)
  | 5 => ("PantographArm$Desk", "wear", "I", false)
  | 6 => ("PantographArm$Desk", "sharpenings", "I", false)
  | 7 => ("PantographArm$Desk", "drawnLines", "I", false)
  | 8 => ("PantographArm$Desk", "drawnLength", "I", false)
  | 9 => ("PantographArm$Desk", "leftOut", "I", false)
  | 10 => ("PantographArm$Desk", "drawings", "[LPantographArm$Drawing;", true)
  | _ => ("PantographArm$Desk", "size", "I", false)
def tyX0 : Nat → FieldType := fun k => match k with
  | 0 => .int
  | 1 => .int
  | 2 => .int
  | 3 => .int
  | 4 => .array .int
  | 5 => .int
  | 6 => .int
  | 7 => .int
  | 8 => .int
  | 9 => .int
  | 10 => .array (.object "PantographArm$Drawing")
  | _ => .int
abbrev wsX00 : List Cond := u_ws RX0 TX0 12
theorem nmX0 : ∀ a, a < 12 → ∀ b, b < 12 → a ≠ b → (TX0 a).2.1 ≠ (TX0 b).2.1 := by decide +kernel
theorem tyX0_ok : ∀ k, k < 12 → parseFieldDescriptor (TX0 k).2.2.1 = some (tyX0 k) := by decide +kernel
abbrev cX0_init : ByteArray := prog_2_method_1_code
def yX0_init : MethodName := ⟨RX0, "<init>", "()V"⟩
abbrev cX0_takeFrom : ByteArray := prog_2_method_2_code
def yX0_takeFrom : MethodName := ⟨RX0, "takeFrom", "(LPantographArm$Desk;)V"⟩
abbrev cX0_setting : ByteArray := prog_2_method_3_code
def yX0_setting : MethodName := ⟨RX0, "setting", "(I)I"⟩
abbrev cX0_changeSetting : ByteArray := prog_2_method_4_code
def yX0_changeSetting : MethodName := ⟨RX0, "changeSetting", "(II)V"⟩
abbrev cX0_signX : ByteArray := prog_2_method_5_code
def yX0_signX : MethodName := ⟨RX0, "signX", "()I"⟩
abbrev cX0_signY : ByteArray := prog_2_method_6_code
def yX0_signY : MethodName := ⟨RX0, "signY", "()I"⟩
abbrev cX0_find : ByteArray := prog_2_method_7_code
def yX0_find : MethodName := ⟨RX0, "find", "(I)LPantographArm$Drawing;"⟩
abbrev cX0_spare : ByteArray := prog_2_method_8_code
def yX0_spare : MethodName := ⟨RX0, "spare", "()LPantographArm$Drawing;"⟩
abbrev cX0_beginOriginal : ByteArray := prog_2_method_9_code
def yX0_beginOriginal : MethodName := ⟨RX0, "beginOriginal", "()I"⟩
abbrev cX0_hasCopies : ByteArray := prog_2_method_10_code
def yX0_hasCopies : MethodName := ⟨RX0, "hasCopies", "(I)Z"⟩
abbrev cX0_takeAway : ByteArray := prog_2_method_11_code
def yX0_takeAway : MethodName := ⟨RX0, "takeAway", "(I)V"⟩
abbrev cX0_originalOf : ByteArray := prog_2_method_12_code
def yX0_originalOf : MethodName := ⟨RX0, "originalOf", "(I)I"⟩
abbrev cX0_stepsOf : ByteArray := prog_2_method_13_code
def yX0_stepsOf : MethodName := ⟨RX0, "stepsOf", "(I)I"⟩
abbrev cX0_isOnBoard : ByteArray := prog_2_method_14_code
def yX0_isOnBoard : MethodName := ⟨RX0, "isOnBoard", "(LPantographArm$Drawing;I)Z"⟩
abbrev cX0_pointsOffBoard : ByteArray := prog_2_method_15_code
def yX0_pointsOffBoard : MethodName := ⟨RX0, "pointsOffBoard", "(LPantographArm$Drawing;)I"⟩
abbrev cX0_wornWidth : ByteArray := prog_2_method_16_code
def yX0_wornWidth : MethodName := ⟨RX0, "wornWidth", "()I"⟩
abbrev cX0_isBlunt : ByteArray := prog_2_method_17_code
def yX0_isBlunt : MethodName := ⟨RX0, "isBlunt", "()Z"⟩
abbrev cX0_drawLine : ByteArray := prog_2_method_18_code
def yX0_drawLine : MethodName := ⟨RX0, "drawLine", "(LPantographArm$Drawing;I)V"⟩
abbrev cX0_reasonAgainst : ByteArray := prog_2_method_19_code
def yX0_reasonAgainst : MethodName := ⟨RX0, "reasonAgainst", "(ILPantographArm$Drawing;)I"⟩
abbrev cX0_trace : ByteArray := prog_2_method_20_code
def yX0_trace : MethodName := ⟨RX0, "trace", "(ILPantographArm$Drawing;LPantographArm$Drawing;)V"⟩
abbrev cX0_aim : ByteArray := prog_2_method_21_code
def yX0_aim : MethodName := ⟨RX0, "aim", "(JJII)J"⟩
abbrev cX0_follow : ByteArray := prog_2_method_22_code
def yX0_follow : MethodName := ⟨RX0, "follow", "(JJJ)J"⟩
abbrev cX0_keepTraced : ByteArray := prog_2_method_23_code
def yX0_keepTraced : MethodName := ⟨RX0, "keepTraced", "()I"⟩
def RX1 : String := "PantographArm$Drawing"
def TX1 : u_T := fun k => match k with
  | 0 => ("PantographArm$Drawing", "parent", "I", false)
  | 1 => ("PantographArm$Drawing", "scale", "J", false)
  | 2 => ("PantographArm$Drawing", "parts", "J", false)
  | 3 => ("PantographArm$Drawing", "signX", "I", false)
  | 4 => ("PantographArm$Drawing", "signY", "I", false)
  | 5 => ("PantographArm$Drawing", "shiftX", "J", false)
  | 6 => ("PantographArm$Drawing", "shiftY", "J", false)
  | 7 => ("PantographArm$Drawing", "size", "I", false)
  | 8 => ("PantographArm$Drawing", "xs", "[J", true)
  | 9 => ("PantographArm$Drawing", "ys", "[J", true)
  | _ => ("PantographArm$Drawing", "lines", "[I", true)
def tyX1 : Nat → FieldType := fun k => match k with
  | 0 => .int
  | 1 => .long
  | 2 => .long
  | 3 => .int
  | 4 => .int
  | 5 => .long
  | 6 => .long
  | 7 => .int
  | 8 => .array .long
  | 9 => .array .long
  | _ => .array .int
abbrev wsX10 : List Cond := u_ws RX1 TX1 11
theorem nmX1 : ∀ a, a < 11 → ∀ b, b < 11 → a ≠ b → (TX1 a).2.1 ≠ (TX1 b).2.1 := by decide +kernel
theorem tyX1_ok : ∀ k, k < 11 → parseFieldDescriptor (TX1 k).2.2.1 = some (tyX1 k) := by decide +kernel
abbrev cX1_init : ByteArray := prog_3_method_1_code
def yX1_init : MethodName := ⟨RX1, "<init>", "()V"⟩
abbrev cX1_begin : ByteArray := prog_3_method_2_code
def yX1_begin : MethodName := ⟨RX1, "begin", "(IJJ)V"⟩
abbrev cX1_takeFrom : ByteArray := prog_3_method_3_code
def yX1_takeFrom : MethodName := ⟨RX1, "takeFrom", "(LPantographArm$Drawing;)V"⟩
abbrev cX1_isCopy : ByteArray := prog_3_method_4_code
def yX1_isCopy : MethodName := ⟨RX1, "isCopy", "()Z"⟩
abbrev cX1_isFull : ByteArray := prog_3_method_5_code
def yX1_isFull : MethodName := ⟨RX1, "isFull", "()Z"⟩
abbrev cX1_add : ByteArray := prog_3_method_6_code
def yX1_add : MethodName := ⟨RX1, "add", "(JJI)V"⟩
abbrev cX1_has : ByteArray := prog_3_method_7_code
def yX1_has : MethodName := ⟨RX1, "has", "(I)Z"⟩
abbrev cX1_x : ByteArray := prog_3_method_8_code
def yX1_x : MethodName := ⟨RX1, "x", "(I)J"⟩
abbrev cX1_y : ByteArray := prog_3_method_9_code
def yX1_y : MethodName := ⟨RX1, "y", "(I)J"⟩
abbrev cX1_line : ByteArray := prog_3_method_10_code
def yX1_line : MethodName := ⟨RX1, "line", "(I)I"⟩
abbrev cX1_changeLine : ByteArray := prog_3_method_11_code
def yX1_changeLine : MethodName := ⟨RX1, "changeLine", "(II)V"⟩
abbrev cX1_isJoined : ByteArray := prog_3_method_12_code
def yX1_isJoined : MethodName := ⟨RX1, "isJoined", "(I)Z"⟩
abbrev cX1_width : ByteArray := prog_3_method_13_code
def yX1_width : MethodName := ⟨RX1, "width", "(I)I"⟩
abbrev cX1_lineLength : ByteArray := prog_3_method_14_code
def yX1_lineLength : MethodName := ⟨RX1, "lineLength", "(I)I"⟩
abbrev cX1_drawnLines : ByteArray := prog_3_method_15_code
def yX1_drawnLines : MethodName := ⟨RX1, "drawnLines", "()I"⟩
abbrev cX1_drawnLength : ByteArray := prog_3_method_16_code
def yX1_drawnLength : MethodName := ⟨RX1, "drawnLength", "()I"⟩
abbrev cX1_greatestWidth : ByteArray := prog_3_method_17_code
def yX1_greatestWidth : MethodName := ⟨RX1, "greatestWidth", "()I"⟩
abbrev cX1_ratioAsFloat : ByteArray := prog_3_method_18_code
def yX1_ratioAsFloat : MethodName := ⟨RX1, "ratioAsFloat", "()F"⟩
abbrev cX1_xAtOnce : ByteArray := prog_3_method_19_code
def yX1_xAtOnce : MethodName := ⟨RX1, "xAtOnce", "(J)J"⟩
abbrev cX1_yAtOnce : ByteArray := prog_3_method_20_code
def yX1_yAtOnce : MethodName := ⟨RX1, "yAtOnce", "(J)J"⟩
abbrev cX1_isTooFine : ByteArray := prog_3_method_21_code
def yX1_isTooFine : MethodName := ⟨RX1, "isTooFine", "()Z"⟩
def RX2 : String := "PantographArm$PointText"
def TX2 : u_T := fun k => match k with
  | 0 => ("PantographArm$PointText", "characters", "[C", true)
  | 1 => ("PantographArm$PointText", "length", "I", false)
  | 2 => ("PantographArm$PointText", "at", "I", false)
  | 3 => ("PantographArm$PointText", "faultAt", "I", false)
  | 4 => ("PantographArm$PointText", "reason", "I", false)
  | 5 => ("PantographArm$PointText", "xs", "[I", true)
  | 6 => ("PantographArm$PointText", "ys", "[I", true)
  | 7 => ("PantographArm$PointText", "joined", "[Z", true)
  | _ => ("PantographArm$PointText", "size", "I", false)
def tyX2 : Nat → FieldType := fun k => match k with
  | 0 => .array .char
  | 1 => .int
  | 2 => .int
  | 3 => .int
  | 4 => .int
  | 5 => .array .int
  | 6 => .array .int
  | 7 => .array .boolean
  | _ => .int
abbrev wsX20 : List Cond := u_ws RX2 TX2 9
theorem nmX2 : ∀ a, a < 9 → ∀ b, b < 9 → a ≠ b → (TX2 a).2.1 ≠ (TX2 b).2.1 := by decide +kernel
theorem tyX2_ok : ∀ k, k < 9 → parseFieldDescriptor (TX2 k).2.2.1 = some (tyX2 k) := by decide +kernel
abbrev cX2_init : ByteArray := prog_4_method_1_code
def yX2_init : MethodName := ⟨RX2, "<init>", "()V"⟩
abbrev cX2_append : ByteArray := prog_4_method_2_code
def yX2_append : MethodName := ⟨RX2, "append", "(C)Z"⟩
abbrev cX2_parse : ByteArray := prog_4_method_3_code
def yX2_parse : MethodName := ⟨RX2, "parse", "()I"⟩
abbrev cX2_parsePoint : ByteArray := prog_4_method_4_code
def yX2_parsePoint : MethodName := ⟨RX2, "parsePoint", "(Z)V"⟩
abbrev cX2_parseNumber : ByteArray := prog_4_method_5_code
def yX2_parseNumber : MethodName := ⟨RX2, "parseNumber", "()I"⟩
abbrev cX2_here : ByteArray := prog_4_method_6_code
def yX2_here : MethodName := ⟨RX2, "here", "()C"⟩
abbrev cX2_isDigit : ByteArray := prog_4_method_7_code
def yX2_isDigit : MethodName := ⟨RX2, "isDigit", "(C)Z"⟩
abbrev cX2_accept : ByteArray := prog_4_method_8_code
def yX2_accept : MethodName := ⟨RX2, "accept", "(C)Z"⟩
abbrev cX2_expect : ByteArray := prog_4_method_9_code
def yX2_expect : MethodName := ⟨RX2, "expect", "(C)V"⟩
abbrev cX2_failHere : ByteArray := prog_4_method_10_code
def yX2_failHere : MethodName := ⟨RX2, "failHere", "()V"⟩
abbrev cX2_fail : ByteArray := prog_4_method_11_code
def yX2_fail : MethodName := ⟨RX2, "fail", "(II)V"⟩
abbrev cX2_addPointsTo : ByteArray := prog_4_method_12_code
def yX2_addPointsTo : MethodName := ⟨RX2, "addPointsTo", "(LPantographArm$Drawing;)V"⟩
def RX3 : String := "PantographArm"
def TX3 : u_T := fun k => match k with
  | 0 => ("PantographArm", "now", "LPantographArm$Desk;", false)
  | 1 => ("PantographArm", "past", "[LPantographArm$Desk;", true)
  | 2 => ("PantographArm", "states", "I", false)
  | _ => ("PantographArm", "text", "LPantographArm$PointText;", true)
def tyX3 : Nat → FieldType := fun k => match k with
  | 0 => .object "PantographArm$Desk"
  | 1 => .array (.object "PantographArm$Desk")
  | 2 => .int
  | _ => .object "PantographArm$PointText"
abbrev wsX30 : List Cond := u_ws RX3 TX3 4
theorem nmX3 : ∀ a, a < 4 → ∀ b, b < 4 → a ≠ b → (TX3 a).2.1 ≠ (TX3 b).2.1 := by decide +kernel
theorem tyX3_ok : ∀ k, k < 4 → parseFieldDescriptor (TX3 k).2.2.1 = some (tyX3 k) := by decide +kernel
abbrev cX3_init : ByteArray := prog_1_method_1_code
def yX3_init : MethodName := ⟨RX3, "<init>", "()V"⟩
abbrev cX3_arm : ByteArray := prog_1_method_2_code
def yX3_arm : MethodName := ⟨RX3, "arm", "(II)I"⟩
abbrev cX3_pivot : ByteArray := prog_1_method_3_code
def yX3_pivot : MethodName := ⟨RX3, "pivot", "(II)I"⟩
abbrev cX3_set : ByteArray := prog_1_method_4_code
def yX3_set : MethodName := ⟨RX3, "set", "(II)I"⟩
abbrev cX3_count : ByteArray := prog_1_method_5_code
def yX3_count : MethodName := ⟨RX3, "count", "(I)I"⟩
abbrev cX3_sharpen : ByteArray := prog_1_method_6_code
def yX3_sharpen : MethodName := ⟨RX3, "sharpen", "()I"⟩
abbrev cX3_draw : ByteArray := prog_1_method_7_code
def yX3_draw : MethodName := ⟨RX3, "draw", "()I"⟩
abbrev cX3_point : ByteArray := prog_1_method_8_code
def yX3_point : MethodName := ⟨RX3, "point", "(IIII)I"⟩
abbrev cX3_remove : ByteArray := prog_1_method_9_code
def yX3_remove : MethodName := ⟨RX3, "remove", "(I)I"⟩
abbrev cX3_copy : ByteArray := prog_1_method_10_code
def yX3_copy : MethodName := ⟨RX3, "copy", "(I)I"⟩
abbrev cX3_why : ByteArray := prog_1_method_11_code
def yX3_why : MethodName := ⟨RX3, "why", "(I)I"⟩
abbrev cX3_drawing : ByteArray := prog_1_method_12_code
def yX3_drawing : MethodName := ⟨RX3, "drawing", "(II)I"⟩
abbrev cX3_ratio : ByteArray := prog_1_method_13_code
def yX3_ratio : MethodName := ⟨RX3, "ratio", "(II)I"⟩
abbrev cX3_pointInfo : ByteArray := prog_1_method_14_code
def yX3_pointInfo : MethodName := ⟨RX3, "pointInfo", "(III)J"⟩
abbrev cX3_atOnce : ByteArray := prog_1_method_15_code
def yX3_atOnce : MethodName := ⟨RX3, "atOnce", "(III)J"⟩
abbrev cX3_alike : ByteArray := prog_1_method_16_code
def yX3_alike : MethodName := ⟨RX3, "alike", "(II)I"⟩
abbrev cX3_armFor : ByteArray := prog_1_method_17_code
def yX3_armFor : MethodName := ⟨RX3, "armFor", "(II)I"⟩
abbrev cX3_undo : ByteArray := prog_1_method_18_code
def yX3_undo : MethodName := ⟨RX3, "undo", "()I"⟩
abbrev cX3_type : ByteArray := prog_1_method_19_code
def yX3_type : MethodName := ⟨RX3, "type", "(I)I"⟩
abbrev cX3_clearText : ByteArray := prog_1_method_20_code
def yX3_clearText : MethodName := ⟨RX3, "clearText", "()I"⟩
abbrev cX3_fault : ByteArray := prog_1_method_21_code
def yX3_fault : MethodName := ⟨RX3, "fault", "(I)I"⟩
abbrev cX3_read : ByteArray := prog_1_method_22_code
def yX3_read : MethodName := ⟨RX3, "read", "()I"⟩
abbrev cX3_remember : ByteArray := prog_1_method_23_code
def yX3_remember : MethodName := ⟨RX3, "remember", "()V"⟩
abbrev cX3_dropOldest : ByteArray := prog_1_method_24_code
def yX3_dropOldest : MethodName := ⟨RX3, "dropOldest", "()V"⟩
abbrev cX3_isWithin : ByteArray := prog_1_method_25_code
def yX3_isWithin : MethodName := ⟨RX3, "isWithin", "(III)Z"⟩
abbrev cX3_greatestDivisor : ByteArray := prog_1_method_26_code
def yX3_greatestDivisor : MethodName := ⟨RX3, "greatestDivisor", "(JJ)J"⟩
abbrev cX3_lowest : ByteArray := prog_1_method_27_code
def yX3_lowest : MethodName := ⟨RX3, "lowest", "(JJI)J"⟩
abbrev cX3_quotient : ByteArray := prog_1_method_28_code
def yX3_quotient : MethodName := ⟨RX3, "quotient", "(JJ)J"⟩
abbrev cX3_floatBits : ByteArray := prog_1_method_29_code
def yX3_floatBits : MethodName := ⟨RX3, "floatBits", "(F)I"⟩
def RX4 : String := "PantographArmModel"
def TX4 : u_T := fun k => match k with
  | 0 => ("PantographArmModel", "m", "[J", true)
  | 1 => ("PantographArmModel", "spare", "[J", true)
  | 2 => ("PantographArmModel", "saved", "[J", true)
  | 3 => ("PantographArmModel", "savedCount", "I", false)
  | 4 => ("PantographArmModel", "text", "[I", true)
  | 5 => ("PantographArmModel", "textLength", "I", false)
  | 6 => ("PantographArmModel", "top", "J", false)
  | 7 => ("PantographArmModel", "low", "J", false)
  | 8 => ("PantographArmModel", "at", "I", false)
  | 9 => ("PantographArmModel", "faultReason", "I", false)
  | 10 => ("PantographArmModel", "number", "I", false)
  | _ => ("PantographArmModel", "read", "[I", true)
def tyX4 : Nat → FieldType := fun k => match k with
  | 0 => .array .long
  | 1 => .array .long
  | 2 => .array .long
  | 3 => .int
  | 4 => .array .int
  | 5 => .int
  | 6 => .long
  | 7 => .long
  | 8 => .int
  | 9 => .int
  | 10 => .int
  | _ => .array .int
abbrev wsX40 : List Cond := u_ws RX4 TX4 12
theorem nmX4 : ∀ a, a < 12 → ∀ b, b < 12 → a ≠ b → (TX4 a).2.1 ≠ (TX4 b).2.1 := by decide +kernel
theorem tyX4_ok : ∀ k, k < 12 → parseFieldDescriptor (TX4 k).2.2.1 = some (tyX4 k) := by decide +kernel
abbrev cX4_init : ByteArray := prog_6_method_1_code
def yX4_init : MethodName := ⟨RX4, "<init>", "()V"⟩
abbrev cX4_in : ByteArray := prog_6_method_2_code
def yX4_in : MethodName := ⟨RX4, "in", "(III)Z"⟩
abbrev cX4_size : ByteArray := prog_6_method_3_code
def yX4_size : MethodName := ⟨RX4, "size", "(J)J"⟩
abbrev cX4_divisor : ByteArray := prog_6_method_4_code
def yX4_divisor : MethodName := ⟨RX4, "divisor", "(JJ)J"⟩
abbrev cX4_bring : ByteArray := prog_6_method_5_code
def yX4_bring : MethodName := ⟨RX4, "bring", "([JI[JI)V"⟩
abbrev cX4_keep : ByteArray := prog_6_method_6_code
def yX4_keep : MethodName := ⟨RX4, "keep", "()V"⟩
abbrev cX4_reduce : ByteArray := prog_6_method_7_code
def yX4_reduce : MethodName := ⟨RX4, "reduce", "(JJ)V"⟩
abbrev cX4_plus : ByteArray := prog_6_method_8_code
def yX4_plus : MethodName := ⟨RX4, "plus", "(JJJJJ)V"⟩
abbrev cX4_put : ByteArray := prog_6_method_9_code
def yX4_put : MethodName := ⟨RX4, "put", "(I)V"⟩
abbrev cX4_of : ByteArray := prog_6_method_10_code
def yX4_of : MethodName := ⟨RX4, "of", "(I)I"⟩
abbrev cX4_arm : ByteArray := prog_6_method_11_code
def yX4_arm : MethodName := ⟨RX4, "arm", "(II)I"⟩
abbrev cX4_pivot : ByteArray := prog_6_method_12_code
def yX4_pivot : MethodName := ⟨RX4, "pivot", "(II)I"⟩
abbrev cX4_isSetting : ByteArray := prog_6_method_13_code
def yX4_isSetting : MethodName := ⟨RX4, "isSetting", "(II)Z"⟩
abbrev cX4_set : ByteArray := prog_6_method_14_code
def yX4_set : MethodName := ⟨RX4, "set", "(II)I"⟩
abbrev cX4_isBlunt : ByteArray := prog_6_method_15_code
def yX4_isBlunt : MethodName := ⟨RX4, "isBlunt", "()Z"⟩
abbrev cX4_count : ByteArray := prog_6_method_16_code
def yX4_count : MethodName := ⟨RX4, "count", "(I)I"⟩
abbrev cX4_sharpen : ByteArray := prog_6_method_17_code
def yX4_sharpen : MethodName := ⟨RX4, "sharpen", "()I"⟩
abbrev cX4_isDrawing : ByteArray := prog_6_method_18_code
def yX4_isDrawing : MethodName := ⟨RX4, "isDrawing", "(I)Z"⟩
abbrev cX4_head : ByteArray := prog_6_method_19_code
def yX4_head : MethodName := ⟨RX4, "head", "(II)I"⟩
abbrev cX4_cellOf : ByteArray := prog_6_method_20_code
def yX4_cellOf : MethodName := ⟨RX4, "cellOf", "(II)I"⟩
abbrev cX4_points : ByteArray := prog_6_method_21_code
def yX4_points : MethodName := ⟨RX4, "points", "(I)I"⟩
abbrev cX4_isPoint : ByteArray := prog_6_method_22_code
def yX4_isPoint : MethodName := ⟨RX4, "isPoint", "(II)Z"⟩
abbrev cX4_isCopied : ByteArray := prog_6_method_23_code
def yX4_isCopied : MethodName := ⟨RX4, "isCopied", "(I)Z"⟩
abbrev cX4_begins : ByteArray := prog_6_method_24_code
def yX4_begins : MethodName := ⟨RX4, "begins", "()I"⟩
abbrev cX4_draw : ByteArray := prog_6_method_25_code
def yX4_draw : MethodName := ⟨RX4, "draw", "()I"⟩
abbrev cX4_lengthTo : ByteArray := prog_6_method_26_code
def yX4_lengthTo : MethodName := ⟨RX4, "lengthTo", "(II)I"⟩
abbrev cX4_adds : ByteArray := prog_6_method_27_code
def yX4_adds : MethodName := ⟨RX4, "adds", "(IIII)V"⟩
abbrev cX4_point : ByteArray := prog_6_method_28_code
def yX4_point : MethodName := ⟨RX4, "point", "(IIII)I"⟩
abbrev cX4_remove : ByteArray := prog_6_method_29_code
def yX4_remove : MethodName := ⟨RX4, "remove", "(I)I"⟩
abbrev cX4_signOf : ByteArray := prog_6_method_30_code
def yX4_signOf : MethodName := ⟨RX4, "signOf", "(I)I"⟩
abbrev cX4_aim : ByteArray := prog_6_method_31_code
def yX4_aim : MethodName := ⟨RX4, "aim", "(IJJ)V"⟩
abbrev cX4_follow : ByteArray := prog_6_method_32_code
def yX4_follow : MethodName := ⟨RX4, "follow", "(JJ)V"⟩
abbrev cX4_trace : ByteArray := prog_6_method_33_code
def yX4_trace : MethodName := ⟨RX4, "trace", "(III)V"⟩
abbrev cX4_isOnBoard : ByteArray := prog_6_method_34_code
def yX4_isOnBoard : MethodName := ⟨RX4, "isOnBoard", "(II)Z"⟩
abbrev cX4_line : ByteArray := prog_6_method_35_code
def yX4_line : MethodName := ⟨RX4, "line", "(II)V"⟩
abbrev cX4_shift : ByteArray := prog_6_method_36_code
def yX4_shift : MethodName := ⟨RX4, "shift", "(III)V"⟩
abbrev cX4_copies : ByteArray := prog_6_method_37_code
def yX4_copies : MethodName := ⟨RX4, "copies", "(I)Z"⟩
abbrev cX4_reason : ByteArray := prog_6_method_38_code
def yX4_reason : MethodName := ⟨RX4, "reason", "(I)I"⟩
abbrev cX4_why : ByteArray := prog_6_method_39_code
def yX4_why : MethodName := ⟨RX4, "why", "(I)I"⟩
abbrev cX4_copy : ByteArray := prog_6_method_40_code
def yX4_copy : MethodName := ⟨RX4, "copy", "(I)I"⟩
abbrev cX4_root : ByteArray := prog_6_method_41_code
def yX4_root : MethodName := ⟨RX4, "root", "(I)I"⟩
abbrev cX4_steps : ByteArray := prog_6_method_42_code
def yX4_steps : MethodName := ⟨RX4, "steps", "(I)I"⟩
abbrev cX4_lines : ByteArray := prog_6_method_43_code
def yX4_lines : MethodName := ⟨RX4, "lines", "(II)I"⟩
abbrev cX4_offBoard : ByteArray := prog_6_method_44_code
def yX4_offBoard : MethodName := ⟨RX4, "offBoard", "(I)I"⟩
abbrev cX4_ratioOf : ByteArray := prog_6_method_45_code
def yX4_ratioOf : MethodName := ⟨RX4, "ratioOf", "(I)F"⟩
abbrev cX4_drawingOf : ByteArray := prog_6_method_46_code
def yX4_drawingOf : MethodName := ⟨RX4, "drawingOf", "(II)I"⟩
abbrev cX4_drawing : ByteArray := prog_6_method_47_code
def yX4_drawing : MethodName := ⟨RX4, "drawing", "(II)I"⟩
abbrev cX4_ratio : ByteArray := prog_6_method_48_code
def yX4_ratio : MethodName := ⟨RX4, "ratio", "(II)I"⟩
abbrev cX4_pointInfo : ByteArray := prog_6_method_49_code
def yX4_pointInfo : MethodName := ⟨RX4, "pointInfo", "(III)J"⟩
abbrev cX4_atOnce : ByteArray := prog_6_method_50_code
def yX4_atOnce : MethodName := ⟨RX4, "atOnce", "(III)J"⟩
abbrev cX4_alike : ByteArray := prog_6_method_51_code
def yX4_alike : MethodName := ⟨RX4, "alike", "(II)I"⟩
abbrev cX4_armFor : ByteArray := prog_6_method_52_code
def yX4_armFor : MethodName := ⟨RX4, "armFor", "(II)I"⟩
abbrev cX4_undo : ByteArray := prog_6_method_53_code
def yX4_undo : MethodName := ⟨RX4, "undo", "()I"⟩
abbrev cX4_type : ByteArray := prog_6_method_54_code
def yX4_type : MethodName := ⟨RX4, "type", "(I)I"⟩
abbrev cX4_clearText : ByteArray := prog_6_method_55_code
def yX4_clearText : MethodName := ⟨RX4, "clearText", "()I"⟩
abbrev cX4_here : ByteArray := prog_6_method_56_code
def yX4_here : MethodName := ⟨RX4, "here", "()I"⟩
abbrev cX4_isFault : ByteArray := prog_6_method_57_code
def yX4_isFault : MethodName := ⟨RX4, "isFault", "()Z"⟩
abbrev cX4_readNumber : ByteArray := prog_6_method_58_code
def yX4_readNumber : MethodName := ⟨RX4, "readNumber", "()Z"⟩
abbrev cX4_readPoint : ByteArray := prog_6_method_59_code
def yX4_readPoint : MethodName := ⟨RX4, "readPoint", "(II)Z"⟩
abbrev cX4_readText : ByteArray := prog_6_method_60_code
def yX4_readText : MethodName := ⟨RX4, "readText", "()I"⟩
abbrev cX4_fault : ByteArray := prog_6_method_61_code
def yX4_fault : MethodName := ⟨RX4, "fault", "(I)I"⟩
abbrev cX4_read : ByteArray := prog_6_method_62_code
def yX4_read : MethodName := ⟨RX4, "read", "()I"⟩
def RJxf58ca : String := "java/lang/Float"
def TJxf58ca : u_T := fun k => match k with
  | _ => ("", "", "", false)
def tyJxf58ca : Nat → FieldType := fun k => match k with
  | _ => .int
abbrev wsJxf58ca0 : List Cond := u_ws RJxf58ca TJxf58ca 0
theorem nmJxf58ca : ∀ a, a < 0 → ∀ b, b < 0 → a ≠ b → (TJxf58ca a).2.1 ≠ (TJxf58ca b).2.1 := by decide +kernel
theorem tyJxf58ca_ok : ∀ k, k < 0 → parseFieldDescriptor (TJxf58ca k).2.2.1 = some (tyJxf58ca k) := by decide +kernel
abbrev cJxf58ca_isNaN_12338 : ByteArray := prog_7_method_6_code
def yJxf58ca_isNaN_12338 : MethodName := ⟨RJxf58ca, "isNaN", "(F)Z"⟩
abbrev cJxf58ca_floatToIntBits_5c35a : ByteArray := prog_7_method_24_code
def yJxf58ca_floatToIntBits_5c35a : MethodName := ⟨RJxf58ca, "floatToIntBits", "(F)I"⟩
def RJ9 : String := "java/lang/Math"
def TJ9 : u_T := fun k => match k with
  | _ => ("", "", "", false)
def tyJ9 : Nat → FieldType := fun k => match k with
  | _ => .int
abbrev wsJ90 : List Cond := u_ws RJ9 TJ9 0
theorem nmJ9 : ∀ a, a < 0 → ∀ b, b < 0 → a ≠ b → (TJ9 a).2.1 ≠ (TJ9 b).2.1 := by decide +kernel
theorem tyJ9_ok : ∀ k, k < 0 → parseFieldDescriptor (TJ9 k).2.2.1 = some (tyJ9 k) := by decide +kernel
abbrev cJ9_abs_067f4 : ByteArray := prog_8_method_61_code
def yJ9_abs_067f4 : MethodName := ⟨RJ9, "abs", "(J)J"⟩
abbrev cJ9_max_7cf53 : ByteArray := prog_8_method_65_code
def yJ9_max_7cf53 : MethodName := ⟨RJ9, "max", "(II)I"⟩
abbrev cJ9_min_7cf53 : ByteArray := prog_8_method_69_code
def yJ9_min_7cf53 : MethodName := ⟨RJ9, "min", "(II)I"⟩
def RL : String := "PantographArmLaw"
abbrev cL_law : ByteArray := code
def yL_law : MethodName := ⟨RL, "law", "([I)Z"⟩
end
section
theorem dJxf58ca_isNaN_12338_0 : decode cJxf58ca_isNaN_12338 0 = .ok (.fload_n 0, 1) := by decide +kernel
theorem dJxf58ca_isNaN_12338_1 : decode cJxf58ca_isNaN_12338 1 = .ok (.fload_n 0, 1) := by decide +kernel
theorem dJxf58ca_isNaN_12338_2 : decode cJxf58ca_isNaN_12338 2 = .ok (.fcmp .l, 1) := by decide +kernel
theorem dJxf58ca_isNaN_12338_3 : decode cJxf58ca_isNaN_12338 3 = .ok (.ifCond .eq 7, 3) := by decide +kernel
theorem dJxf58ca_isNaN_12338_6 : decode cJxf58ca_isNaN_12338 6 = .ok (.iconst 1, 1) := by decide +kernel
theorem dJxf58ca_isNaN_12338_7 : decode cJxf58ca_isNaN_12338 7 = .ok (.goto 4, 3) := by decide +kernel
theorem dJxf58ca_isNaN_12338_10 : decode cJxf58ca_isNaN_12338 10 = .ok (.iconst 0, 1) := by decide +kernel
theorem dJxf58ca_isNaN_12338_11 : decode cJxf58ca_isNaN_12338 11 = .ok (.ireturn, 1) := by decide +kernel
theorem dJxf58ca_floatToIntBits_5c35a_0 : decode cJxf58ca_floatToIntBits_5c35a 0 = .ok (.fload_n 0, 1) := by decide +kernel
theorem dJxf58ca_floatToIntBits_5c35a_1 : decode cJxf58ca_floatToIntBits_5c35a 1 = .ok (.invokestatic 59, 3) := by decide +kernel
theorem dJxf58ca_floatToIntBits_5c35a_4 : decode cJxf58ca_floatToIntBits_5c35a 4 = .ok (.ifCond .ne 8, 3) := by decide +kernel
theorem dJxf58ca_floatToIntBits_5c35a_7 : decode cJxf58ca_floatToIntBits_5c35a 7 = .ok (.fload_n 0, 1) := by decide +kernel
theorem dJxf58ca_floatToIntBits_5c35a_8 : decode cJxf58ca_floatToIntBits_5c35a 8 = .ok (.invokestatic 74, 3) := by decide +kernel
theorem dJxf58ca_floatToIntBits_5c35a_11 : decode cJxf58ca_floatToIntBits_5c35a 11 = .ok (.ireturn, 1) := by decide +kernel
theorem dJxf58ca_floatToIntBits_5c35a_12 : decode cJxf58ca_floatToIntBits_5c35a 12 = .ok (.ldc 77, 2) := by decide +kernel
theorem dJxf58ca_floatToIntBits_5c35a_14 : decode cJxf58ca_floatToIntBits_5c35a 14 = .ok (.ireturn, 1) := by decide +kernel
theorem dJ9_abs_067f4_0 : decode cJ9_abs_067f4 0 = .ok (.lload_n 0, 1) := by decide +kernel
theorem dJ9_abs_067f4_1 : decode cJ9_abs_067f4 1 = .ok (.lconst 0, 1) := by decide +kernel
theorem dJ9_abs_067f4_2 : decode cJ9_abs_067f4 2 = .ok (.lcmp, 1) := by decide +kernel
theorem dJ9_abs_067f4_3 : decode cJ9_abs_067f4 3 = .ok (.ifCond .ge 8, 3) := by decide +kernel
theorem dJ9_abs_067f4_6 : decode cJ9_abs_067f4 6 = .ok (.lload_n 0, 1) := by decide +kernel
theorem dJ9_abs_067f4_7 : decode cJ9_abs_067f4 7 = .ok (.lneg, 1) := by decide +kernel
theorem dJ9_abs_067f4_8 : decode cJ9_abs_067f4 8 = .ok (.goto 4, 3) := by decide +kernel
theorem dJ9_abs_067f4_11 : decode cJ9_abs_067f4 11 = .ok (.lload_n 0, 1) := by decide +kernel
theorem dJ9_abs_067f4_12 : decode cJ9_abs_067f4 12 = .ok (.lreturn, 1) := by decide +kernel
theorem dJ9_max_7cf53_0 : decode cJ9_max_7cf53 0 = .ok (.iload_n 0, 1) := by decide +kernel
theorem dJ9_max_7cf53_1 : decode cJ9_max_7cf53 1 = .ok (.iload_n 1, 1) := by decide +kernel
theorem dJ9_max_7cf53_2 : decode cJ9_max_7cf53 2 = .ok (.if_icmp .lt 7, 3) := by decide +kernel
theorem dJ9_max_7cf53_5 : decode cJ9_max_7cf53 5 = .ok (.iload_n 0, 1) := by decide +kernel
theorem dJ9_max_7cf53_6 : decode cJ9_max_7cf53 6 = .ok (.goto 4, 3) := by decide +kernel
theorem dJ9_max_7cf53_9 : decode cJ9_max_7cf53 9 = .ok (.iload_n 1, 1) := by decide +kernel
theorem dJ9_max_7cf53_10 : decode cJ9_max_7cf53 10 = .ok (.ireturn, 1) := by decide +kernel
theorem dJ9_min_7cf53_0 : decode cJ9_min_7cf53 0 = .ok (.iload_n 0, 1) := by decide +kernel
theorem dJ9_min_7cf53_1 : decode cJ9_min_7cf53 1 = .ok (.iload_n 1, 1) := by decide +kernel
theorem dJ9_min_7cf53_2 : decode cJ9_min_7cf53 2 = .ok (.if_icmp .gt 7, 3) := by decide +kernel
theorem dJ9_min_7cf53_5 : decode cJ9_min_7cf53 5 = .ok (.iload_n 0, 1) := by decide +kernel
theorem dJ9_min_7cf53_6 : decode cJ9_min_7cf53 6 = .ok (.goto 4, 3) := by decide +kernel
theorem dJ9_min_7cf53_9 : decode cJ9_min_7cf53 9 = .ok (.iload_n 1, 1) := by decide +kernel
theorem dJ9_min_7cf53_10 : decode cJ9_min_7cf53 10 = .ok (.ireturn, 1) := by decide +kernel
end
section
theorem dL_law_0 : decode cL_law 0 = .ok (.new 7, 3) := by decide +kernel
theorem dL_law_3 : decode cL_law 3 = .ok (.dup, 1) := by decide +kernel
theorem dL_law_4 : decode cL_law 4 = .ok (.invokespecial 9, 3) := by decide +kernel
theorem dL_law_7 : decode cL_law 7 = .ok (.astore_n 1, 1) := by decide +kernel
theorem dL_law_8 : decode cL_law 8 = .ok (.new 10, 3) := by decide +kernel
theorem dL_law_11 : decode cL_law 11 = .ok (.dup, 1) := by decide +kernel
theorem dL_law_12 : decode cL_law 12 = .ok (.invokespecial 12, 3) := by decide +kernel
theorem dL_law_15 : decode cL_law 15 = .ok (.astore_n 2, 1) := by decide +kernel
theorem dL_law_16 : decode cL_law 16 = .ok (.iconst 0, 1) := by decide +kernel
theorem dL_law_17 : decode cL_law 17 = .ok (.istore_n 3, 1) := by decide +kernel
theorem dL_law_18 : decode cL_law 18 = .ok (.iload_n 3, 1) := by decide +kernel
theorem dL_law_19 : decode cL_law 19 = .ok (.aload_n 0, 1) := by decide +kernel
theorem dL_law_20 : decode cL_law 20 = .ok (.arraylength, 1) := by decide +kernel
theorem dL_law_21 : decode cL_law 21 = .ok (.iconst 5, 1) := by decide +kernel
theorem dL_law_22 : decode cL_law 22 = .ok (.isub, 1) := by decide +kernel
theorem dL_law_23 : decode cL_law 23 = .ok (.if_icmp .gt 690, 3) := by decide +kernel
theorem dL_law_26 : decode cL_law 26 = .ok (.aload_n 0, 1) := by decide +kernel
theorem dL_law_27 : decode cL_law 27 = .ok (.iload_n 3, 1) := by decide +kernel
theorem dL_law_28 : decode cL_law 28 = .ok (.iaload, 1) := by decide +kernel
theorem dL_law_29 : decode cL_law 29 = .ok (.bipush 31, 2) := by decide +kernel
theorem dL_law_31 : decode cL_law 31 = .ok (.iand, 1) := by decide +kernel
theorem dL_law_32 : decode cL_law 32 = .ok (.tableswitch 675 0 20 #[100, 133, 166, 199, 222, 235, 248, 301, 324, 347, 370, 403, 436, 480, 524, 557, 590, 603, 626, 639, 662], 100) := by decide +kernel
theorem dL_law_132 : decode cL_law 132 = .ok (.aload_n 1, 1) := by decide +kernel
theorem dL_law_133 : decode cL_law 133 = .ok (.aload_n 0, 1) := by decide +kernel
theorem dL_law_134 : decode cL_law 134 = .ok (.iload_n 3, 1) := by decide +kernel
theorem dL_law_135 : decode cL_law 135 = .ok (.iconst 1, 1) := by decide +kernel
theorem dL_law_136 : decode cL_law 136 = .ok (.iadd, 1) := by decide +kernel
theorem dL_law_137 : decode cL_law 137 = .ok (.iaload, 1) := by decide +kernel
theorem dL_law_138 : decode cL_law 138 = .ok (.aload_n 0, 1) := by decide +kernel
theorem dL_law_139 : decode cL_law 139 = .ok (.iload_n 3, 1) := by decide +kernel
theorem dL_law_140 : decode cL_law 140 = .ok (.iconst 2, 1) := by decide +kernel
theorem dL_law_141 : decode cL_law 141 = .ok (.iadd, 1) := by decide +kernel
theorem dL_law_142 : decode cL_law 142 = .ok (.iaload, 1) := by decide +kernel
theorem dL_law_143 : decode cL_law 143 = .ok (.invokevirtual 13, 3) := by decide +kernel
theorem dL_law_146 : decode cL_law 146 = .ok (.aload_n 2, 1) := by decide +kernel
theorem dL_law_147 : decode cL_law 147 = .ok (.aload_n 0, 1) := by decide +kernel
theorem dL_law_148 : decode cL_law 148 = .ok (.iload_n 3, 1) := by decide +kernel
theorem dL_law_149 : decode cL_law 149 = .ok (.iconst 1, 1) := by decide +kernel
theorem dL_law_150 : decode cL_law 150 = .ok (.iadd, 1) := by decide +kernel
theorem dL_law_151 : decode cL_law 151 = .ok (.iaload, 1) := by decide +kernel
theorem dL_law_152 : decode cL_law 152 = .ok (.aload_n 0, 1) := by decide +kernel
theorem dL_law_153 : decode cL_law 153 = .ok (.iload_n 3, 1) := by decide +kernel
theorem dL_law_154 : decode cL_law 154 = .ok (.iconst 2, 1) := by decide +kernel
theorem dL_law_155 : decode cL_law 155 = .ok (.iadd, 1) := by decide +kernel
theorem dL_law_156 : decode cL_law 156 = .ok (.iaload, 1) := by decide +kernel
theorem dL_law_157 : decode cL_law 157 = .ok (.invokevirtual 17, 3) := by decide +kernel
theorem dL_law_160 : decode cL_law 160 = .ok (.if_icmp .eq 547, 3) := by decide +kernel
theorem dL_law_163 : decode cL_law 163 = .ok (.iconst 0, 1) := by decide +kernel
theorem dL_law_164 : decode cL_law 164 = .ok (.ireturn, 1) := by decide +kernel
theorem dL_law_165 : decode cL_law 165 = .ok (.aload_n 1, 1) := by decide +kernel
theorem dL_law_166 : decode cL_law 166 = .ok (.aload_n 0, 1) := by decide +kernel
theorem dL_law_167 : decode cL_law 167 = .ok (.iload_n 3, 1) := by decide +kernel
theorem dL_law_168 : decode cL_law 168 = .ok (.iconst 1, 1) := by decide +kernel
theorem dL_law_169 : decode cL_law 169 = .ok (.iadd, 1) := by decide +kernel
theorem dL_law_170 : decode cL_law 170 = .ok (.iaload, 1) := by decide +kernel
theorem dL_law_171 : decode cL_law 171 = .ok (.aload_n 0, 1) := by decide +kernel
theorem dL_law_172 : decode cL_law 172 = .ok (.iload_n 3, 1) := by decide +kernel
theorem dL_law_173 : decode cL_law 173 = .ok (.iconst 2, 1) := by decide +kernel
theorem dL_law_174 : decode cL_law 174 = .ok (.iadd, 1) := by decide +kernel
theorem dL_law_175 : decode cL_law 175 = .ok (.iaload, 1) := by decide +kernel
theorem dL_law_176 : decode cL_law 176 = .ok (.invokevirtual 18, 3) := by decide +kernel
theorem dL_law_179 : decode cL_law 179 = .ok (.aload_n 2, 1) := by decide +kernel
theorem dL_law_180 : decode cL_law 180 = .ok (.aload_n 0, 1) := by decide +kernel
theorem dL_law_181 : decode cL_law 181 = .ok (.iload_n 3, 1) := by decide +kernel
theorem dL_law_182 : decode cL_law 182 = .ok (.iconst 1, 1) := by decide +kernel
theorem dL_law_183 : decode cL_law 183 = .ok (.iadd, 1) := by decide +kernel
theorem dL_law_184 : decode cL_law 184 = .ok (.iaload, 1) := by decide +kernel
theorem dL_law_185 : decode cL_law 185 = .ok (.aload_n 0, 1) := by decide +kernel
theorem dL_law_186 : decode cL_law 186 = .ok (.iload_n 3, 1) := by decide +kernel
theorem dL_law_187 : decode cL_law 187 = .ok (.iconst 2, 1) := by decide +kernel
theorem dL_law_188 : decode cL_law 188 = .ok (.iadd, 1) := by decide +kernel
theorem dL_law_189 : decode cL_law 189 = .ok (.iaload, 1) := by decide +kernel
theorem dL_law_190 : decode cL_law 190 = .ok (.invokevirtual 21, 3) := by decide +kernel
theorem dL_law_193 : decode cL_law 193 = .ok (.if_icmp .eq 514, 3) := by decide +kernel
theorem dL_law_196 : decode cL_law 196 = .ok (.iconst 0, 1) := by decide +kernel
theorem dL_law_197 : decode cL_law 197 = .ok (.ireturn, 1) := by decide +kernel
theorem dL_law_198 : decode cL_law 198 = .ok (.aload_n 1, 1) := by decide +kernel
theorem dL_law_199 : decode cL_law 199 = .ok (.aload_n 0, 1) := by decide +kernel
theorem dL_law_200 : decode cL_law 200 = .ok (.iload_n 3, 1) := by decide +kernel
theorem dL_law_201 : decode cL_law 201 = .ok (.iconst 1, 1) := by decide +kernel
theorem dL_law_202 : decode cL_law 202 = .ok (.iadd, 1) := by decide +kernel
theorem dL_law_203 : decode cL_law 203 = .ok (.iaload, 1) := by decide +kernel
theorem dL_law_204 : decode cL_law 204 = .ok (.aload_n 0, 1) := by decide +kernel
theorem dL_law_205 : decode cL_law 205 = .ok (.iload_n 3, 1) := by decide +kernel
theorem dL_law_206 : decode cL_law 206 = .ok (.iconst 2, 1) := by decide +kernel
theorem dL_law_207 : decode cL_law 207 = .ok (.iadd, 1) := by decide +kernel
theorem dL_law_208 : decode cL_law 208 = .ok (.iaload, 1) := by decide +kernel
theorem dL_law_209 : decode cL_law 209 = .ok (.invokevirtual 22, 3) := by decide +kernel
theorem dL_law_212 : decode cL_law 212 = .ok (.aload_n 2, 1) := by decide +kernel
theorem dL_law_213 : decode cL_law 213 = .ok (.aload_n 0, 1) := by decide +kernel
theorem dL_law_214 : decode cL_law 214 = .ok (.iload_n 3, 1) := by decide +kernel
theorem dL_law_215 : decode cL_law 215 = .ok (.iconst 1, 1) := by decide +kernel
theorem dL_law_216 : decode cL_law 216 = .ok (.iadd, 1) := by decide +kernel
theorem dL_law_217 : decode cL_law 217 = .ok (.iaload, 1) := by decide +kernel
theorem dL_law_218 : decode cL_law 218 = .ok (.aload_n 0, 1) := by decide +kernel
theorem dL_law_219 : decode cL_law 219 = .ok (.iload_n 3, 1) := by decide +kernel
theorem dL_law_220 : decode cL_law 220 = .ok (.iconst 2, 1) := by decide +kernel
theorem dL_law_221 : decode cL_law 221 = .ok (.iadd, 1) := by decide +kernel
theorem dL_law_222 : decode cL_law 222 = .ok (.iaload, 1) := by decide +kernel
theorem dL_law_223 : decode cL_law 223 = .ok (.invokevirtual 25, 3) := by decide +kernel
theorem dL_law_226 : decode cL_law 226 = .ok (.if_icmp .eq 481, 3) := by decide +kernel
theorem dL_law_229 : decode cL_law 229 = .ok (.iconst 0, 1) := by decide +kernel
theorem dL_law_230 : decode cL_law 230 = .ok (.ireturn, 1) := by decide +kernel
theorem dL_law_231 : decode cL_law 231 = .ok (.aload_n 1, 1) := by decide +kernel
theorem dL_law_232 : decode cL_law 232 = .ok (.aload_n 0, 1) := by decide +kernel
theorem dL_law_233 : decode cL_law 233 = .ok (.iload_n 3, 1) := by decide +kernel
theorem dL_law_234 : decode cL_law 234 = .ok (.iconst 1, 1) := by decide +kernel
theorem dL_law_235 : decode cL_law 235 = .ok (.iadd, 1) := by decide +kernel
theorem dL_law_236 : decode cL_law 236 = .ok (.iaload, 1) := by decide +kernel
theorem dL_law_237 : decode cL_law 237 = .ok (.invokevirtual 26, 3) := by decide +kernel
theorem dL_law_240 : decode cL_law 240 = .ok (.aload_n 2, 1) := by decide +kernel
theorem dL_law_241 : decode cL_law 241 = .ok (.aload_n 0, 1) := by decide +kernel
theorem dL_law_242 : decode cL_law 242 = .ok (.iload_n 3, 1) := by decide +kernel
theorem dL_law_243 : decode cL_law 243 = .ok (.iconst 1, 1) := by decide +kernel
theorem dL_law_244 : decode cL_law 244 = .ok (.iadd, 1) := by decide +kernel
theorem dL_law_245 : decode cL_law 245 = .ok (.iaload, 1) := by decide +kernel
theorem dL_law_246 : decode cL_law 246 = .ok (.invokevirtual 30, 3) := by decide +kernel
theorem dL_law_249 : decode cL_law 249 = .ok (.if_icmp .eq 458, 3) := by decide +kernel
theorem dL_law_252 : decode cL_law 252 = .ok (.iconst 0, 1) := by decide +kernel
theorem dL_law_253 : decode cL_law 253 = .ok (.ireturn, 1) := by decide +kernel
theorem dL_law_254 : decode cL_law 254 = .ok (.aload_n 1, 1) := by decide +kernel
theorem dL_law_255 : decode cL_law 255 = .ok (.invokevirtual 31, 3) := by decide +kernel
theorem dL_law_258 : decode cL_law 258 = .ok (.aload_n 2, 1) := by decide +kernel
theorem dL_law_259 : decode cL_law 259 = .ok (.invokevirtual 35, 3) := by decide +kernel
theorem dL_law_262 : decode cL_law 262 = .ok (.if_icmp .eq 445, 3) := by decide +kernel
theorem dL_law_265 : decode cL_law 265 = .ok (.iconst 0, 1) := by decide +kernel
theorem dL_law_266 : decode cL_law 266 = .ok (.ireturn, 1) := by decide +kernel
theorem dL_law_267 : decode cL_law 267 = .ok (.aload_n 1, 1) := by decide +kernel
theorem dL_law_268 : decode cL_law 268 = .ok (.invokevirtual 36, 3) := by decide +kernel
theorem dL_law_271 : decode cL_law 271 = .ok (.aload_n 2, 1) := by decide +kernel
theorem dL_law_272 : decode cL_law 272 = .ok (.invokevirtual 39, 3) := by decide +kernel
theorem dL_law_275 : decode cL_law 275 = .ok (.if_icmp .eq 432, 3) := by decide +kernel
theorem dL_law_278 : decode cL_law 278 = .ok (.iconst 0, 1) := by decide +kernel
theorem dL_law_279 : decode cL_law 279 = .ok (.ireturn, 1) := by decide +kernel
theorem dL_law_280 : decode cL_law 280 = .ok (.aload_n 1, 1) := by decide +kernel
theorem dL_law_281 : decode cL_law 281 = .ok (.aload_n 0, 1) := by decide +kernel
theorem dL_law_282 : decode cL_law 282 = .ok (.iload_n 3, 1) := by decide +kernel
theorem dL_law_283 : decode cL_law 283 = .ok (.iconst 1, 1) := by decide +kernel
theorem dL_law_284 : decode cL_law 284 = .ok (.iadd, 1) := by decide +kernel
theorem dL_law_285 : decode cL_law 285 = .ok (.iaload, 1) := by decide +kernel
theorem dL_law_286 : decode cL_law 286 = .ok (.aload_n 0, 1) := by decide +kernel
theorem dL_law_287 : decode cL_law 287 = .ok (.iload_n 3, 1) := by decide +kernel
theorem dL_law_288 : decode cL_law 288 = .ok (.iconst 2, 1) := by decide +kernel
theorem dL_law_289 : decode cL_law 289 = .ok (.iadd, 1) := by decide +kernel
theorem dL_law_290 : decode cL_law 290 = .ok (.iaload, 1) := by decide +kernel
theorem dL_law_291 : decode cL_law 291 = .ok (.aload_n 0, 1) := by decide +kernel
theorem dL_law_292 : decode cL_law 292 = .ok (.iload_n 3, 1) := by decide +kernel
theorem dL_law_293 : decode cL_law 293 = .ok (.iconst 3, 1) := by decide +kernel
theorem dL_law_294 : decode cL_law 294 = .ok (.iadd, 1) := by decide +kernel
theorem dL_law_295 : decode cL_law 295 = .ok (.iaload, 1) := by decide +kernel
theorem dL_law_296 : decode cL_law 296 = .ok (.aload_n 0, 1) := by decide +kernel
theorem dL_law_297 : decode cL_law 297 = .ok (.iload_n 3, 1) := by decide +kernel
theorem dL_law_298 : decode cL_law 298 = .ok (.iconst 4, 1) := by decide +kernel
theorem dL_law_299 : decode cL_law 299 = .ok (.iadd, 1) := by decide +kernel
theorem dL_law_300 : decode cL_law 300 = .ok (.iaload, 1) := by decide +kernel
theorem dL_law_301 : decode cL_law 301 = .ok (.invokevirtual 40, 3) := by decide +kernel
theorem dL_law_304 : decode cL_law 304 = .ok (.aload_n 2, 1) := by decide +kernel
theorem dL_law_305 : decode cL_law 305 = .ok (.aload_n 0, 1) := by decide +kernel
theorem dL_law_306 : decode cL_law 306 = .ok (.iload_n 3, 1) := by decide +kernel
theorem dL_law_307 : decode cL_law 307 = .ok (.iconst 1, 1) := by decide +kernel
theorem dL_law_308 : decode cL_law 308 = .ok (.iadd, 1) := by decide +kernel
theorem dL_law_309 : decode cL_law 309 = .ok (.iaload, 1) := by decide +kernel
theorem dL_law_310 : decode cL_law 310 = .ok (.aload_n 0, 1) := by decide +kernel
theorem dL_law_311 : decode cL_law 311 = .ok (.iload_n 3, 1) := by decide +kernel
theorem dL_law_312 : decode cL_law 312 = .ok (.iconst 2, 1) := by decide +kernel
theorem dL_law_313 : decode cL_law 313 = .ok (.iadd, 1) := by decide +kernel
theorem dL_law_314 : decode cL_law 314 = .ok (.iaload, 1) := by decide +kernel
theorem dL_law_315 : decode cL_law 315 = .ok (.aload_n 0, 1) := by decide +kernel
theorem dL_law_316 : decode cL_law 316 = .ok (.iload_n 3, 1) := by decide +kernel
theorem dL_law_317 : decode cL_law 317 = .ok (.iconst 3, 1) := by decide +kernel
theorem dL_law_318 : decode cL_law 318 = .ok (.iadd, 1) := by decide +kernel
theorem dL_law_319 : decode cL_law 319 = .ok (.iaload, 1) := by decide +kernel
theorem dL_law_320 : decode cL_law 320 = .ok (.aload_n 0, 1) := by decide +kernel
theorem dL_law_321 : decode cL_law 321 = .ok (.iload_n 3, 1) := by decide +kernel
theorem dL_law_322 : decode cL_law 322 = .ok (.iconst 4, 1) := by decide +kernel
theorem dL_law_323 : decode cL_law 323 = .ok (.iadd, 1) := by decide +kernel
theorem dL_law_324 : decode cL_law 324 = .ok (.iaload, 1) := by decide +kernel
theorem dL_law_325 : decode cL_law 325 = .ok (.invokevirtual 44, 3) := by decide +kernel
theorem dL_law_328 : decode cL_law 328 = .ok (.if_icmp .eq 379, 3) := by decide +kernel
theorem dL_law_331 : decode cL_law 331 = .ok (.iconst 0, 1) := by decide +kernel
theorem dL_law_332 : decode cL_law 332 = .ok (.ireturn, 1) := by decide +kernel
theorem dL_law_333 : decode cL_law 333 = .ok (.aload_n 1, 1) := by decide +kernel
theorem dL_law_334 : decode cL_law 334 = .ok (.aload_n 0, 1) := by decide +kernel
theorem dL_law_335 : decode cL_law 335 = .ok (.iload_n 3, 1) := by decide +kernel
theorem dL_law_336 : decode cL_law 336 = .ok (.iconst 1, 1) := by decide +kernel
theorem dL_law_337 : decode cL_law 337 = .ok (.iadd, 1) := by decide +kernel
theorem dL_law_338 : decode cL_law 338 = .ok (.iaload, 1) := by decide +kernel
theorem dL_law_339 : decode cL_law 339 = .ok (.invokevirtual 45, 3) := by decide +kernel
theorem dL_law_342 : decode cL_law 342 = .ok (.aload_n 2, 1) := by decide +kernel
theorem dL_law_343 : decode cL_law 343 = .ok (.aload_n 0, 1) := by decide +kernel
theorem dL_law_344 : decode cL_law 344 = .ok (.iload_n 3, 1) := by decide +kernel
theorem dL_law_345 : decode cL_law 345 = .ok (.iconst 1, 1) := by decide +kernel
theorem dL_law_346 : decode cL_law 346 = .ok (.iadd, 1) := by decide +kernel
theorem dL_law_347 : decode cL_law 347 = .ok (.iaload, 1) := by decide +kernel
theorem dL_law_348 : decode cL_law 348 = .ok (.invokevirtual 48, 3) := by decide +kernel
theorem dL_law_351 : decode cL_law 351 = .ok (.if_icmp .eq 356, 3) := by decide +kernel
theorem dL_law_354 : decode cL_law 354 = .ok (.iconst 0, 1) := by decide +kernel
theorem dL_law_355 : decode cL_law 355 = .ok (.ireturn, 1) := by decide +kernel
theorem dL_law_356 : decode cL_law 356 = .ok (.aload_n 1, 1) := by decide +kernel
theorem dL_law_357 : decode cL_law 357 = .ok (.aload_n 0, 1) := by decide +kernel
theorem dL_law_358 : decode cL_law 358 = .ok (.iload_n 3, 1) := by decide +kernel
theorem dL_law_359 : decode cL_law 359 = .ok (.iconst 1, 1) := by decide +kernel
theorem dL_law_360 : decode cL_law 360 = .ok (.iadd, 1) := by decide +kernel
theorem dL_law_361 : decode cL_law 361 = .ok (.iaload, 1) := by decide +kernel
theorem dL_law_362 : decode cL_law 362 = .ok (.invokevirtual 49, 3) := by decide +kernel
theorem dL_law_365 : decode cL_law 365 = .ok (.aload_n 2, 1) := by decide +kernel
theorem dL_law_366 : decode cL_law 366 = .ok (.aload_n 0, 1) := by decide +kernel
theorem dL_law_367 : decode cL_law 367 = .ok (.iload_n 3, 1) := by decide +kernel
theorem dL_law_368 : decode cL_law 368 = .ok (.iconst 1, 1) := by decide +kernel
theorem dL_law_369 : decode cL_law 369 = .ok (.iadd, 1) := by decide +kernel
theorem dL_law_370 : decode cL_law 370 = .ok (.iaload, 1) := by decide +kernel
theorem dL_law_371 : decode cL_law 371 = .ok (.invokevirtual 52, 3) := by decide +kernel
theorem dL_law_374 : decode cL_law 374 = .ok (.if_icmp .eq 333, 3) := by decide +kernel
theorem dL_law_377 : decode cL_law 377 = .ok (.iconst 0, 1) := by decide +kernel
theorem dL_law_378 : decode cL_law 378 = .ok (.ireturn, 1) := by decide +kernel
theorem dL_law_379 : decode cL_law 379 = .ok (.aload_n 1, 1) := by decide +kernel
theorem dL_law_380 : decode cL_law 380 = .ok (.aload_n 0, 1) := by decide +kernel
theorem dL_law_381 : decode cL_law 381 = .ok (.iload_n 3, 1) := by decide +kernel
theorem dL_law_382 : decode cL_law 382 = .ok (.iconst 1, 1) := by decide +kernel
theorem dL_law_383 : decode cL_law 383 = .ok (.iadd, 1) := by decide +kernel
theorem dL_law_384 : decode cL_law 384 = .ok (.iaload, 1) := by decide +kernel
theorem dL_law_385 : decode cL_law 385 = .ok (.invokevirtual 53, 3) := by decide +kernel
theorem dL_law_388 : decode cL_law 388 = .ok (.aload_n 2, 1) := by decide +kernel
theorem dL_law_389 : decode cL_law 389 = .ok (.aload_n 0, 1) := by decide +kernel
theorem dL_law_390 : decode cL_law 390 = .ok (.iload_n 3, 1) := by decide +kernel
theorem dL_law_391 : decode cL_law 391 = .ok (.iconst 1, 1) := by decide +kernel
theorem dL_law_392 : decode cL_law 392 = .ok (.iadd, 1) := by decide +kernel
theorem dL_law_393 : decode cL_law 393 = .ok (.iaload, 1) := by decide +kernel
theorem dL_law_394 : decode cL_law 394 = .ok (.invokevirtual 56, 3) := by decide +kernel
theorem dL_law_397 : decode cL_law 397 = .ok (.if_icmp .eq 310, 3) := by decide +kernel
theorem dL_law_400 : decode cL_law 400 = .ok (.iconst 0, 1) := by decide +kernel
theorem dL_law_401 : decode cL_law 401 = .ok (.ireturn, 1) := by decide +kernel
theorem dL_law_402 : decode cL_law 402 = .ok (.aload_n 1, 1) := by decide +kernel
theorem dL_law_403 : decode cL_law 403 = .ok (.aload_n 0, 1) := by decide +kernel
theorem dL_law_404 : decode cL_law 404 = .ok (.iload_n 3, 1) := by decide +kernel
theorem dL_law_405 : decode cL_law 405 = .ok (.iconst 1, 1) := by decide +kernel
theorem dL_law_406 : decode cL_law 406 = .ok (.iadd, 1) := by decide +kernel
theorem dL_law_407 : decode cL_law 407 = .ok (.iaload, 1) := by decide +kernel
theorem dL_law_408 : decode cL_law 408 = .ok (.aload_n 0, 1) := by decide +kernel
theorem dL_law_409 : decode cL_law 409 = .ok (.iload_n 3, 1) := by decide +kernel
theorem dL_law_410 : decode cL_law 410 = .ok (.iconst 2, 1) := by decide +kernel
theorem dL_law_411 : decode cL_law 411 = .ok (.iadd, 1) := by decide +kernel
theorem dL_law_412 : decode cL_law 412 = .ok (.iaload, 1) := by decide +kernel
theorem dL_law_413 : decode cL_law 413 = .ok (.invokevirtual 57, 3) := by decide +kernel
theorem dL_law_416 : decode cL_law 416 = .ok (.aload_n 2, 1) := by decide +kernel
theorem dL_law_417 : decode cL_law 417 = .ok (.aload_n 0, 1) := by decide +kernel
theorem dL_law_418 : decode cL_law 418 = .ok (.iload_n 3, 1) := by decide +kernel
theorem dL_law_419 : decode cL_law 419 = .ok (.iconst 1, 1) := by decide +kernel
theorem dL_law_420 : decode cL_law 420 = .ok (.iadd, 1) := by decide +kernel
theorem dL_law_421 : decode cL_law 421 = .ok (.iaload, 1) := by decide +kernel
theorem dL_law_422 : decode cL_law 422 = .ok (.aload_n 0, 1) := by decide +kernel
theorem dL_law_423 : decode cL_law 423 = .ok (.iload_n 3, 1) := by decide +kernel
theorem dL_law_424 : decode cL_law 424 = .ok (.iconst 2, 1) := by decide +kernel
theorem dL_law_425 : decode cL_law 425 = .ok (.iadd, 1) := by decide +kernel
theorem dL_law_426 : decode cL_law 426 = .ok (.iaload, 1) := by decide +kernel
theorem dL_law_427 : decode cL_law 427 = .ok (.invokevirtual 60, 3) := by decide +kernel
theorem dL_law_430 : decode cL_law 430 = .ok (.if_icmp .eq 277, 3) := by decide +kernel
theorem dL_law_433 : decode cL_law 433 = .ok (.iconst 0, 1) := by decide +kernel
theorem dL_law_434 : decode cL_law 434 = .ok (.ireturn, 1) := by decide +kernel
theorem dL_law_435 : decode cL_law 435 = .ok (.aload_n 1, 1) := by decide +kernel
theorem dL_law_436 : decode cL_law 436 = .ok (.aload_n 0, 1) := by decide +kernel
theorem dL_law_437 : decode cL_law 437 = .ok (.iload_n 3, 1) := by decide +kernel
theorem dL_law_438 : decode cL_law 438 = .ok (.iconst 1, 1) := by decide +kernel
theorem dL_law_439 : decode cL_law 439 = .ok (.iadd, 1) := by decide +kernel
theorem dL_law_440 : decode cL_law 440 = .ok (.iaload, 1) := by decide +kernel
theorem dL_law_441 : decode cL_law 441 = .ok (.aload_n 0, 1) := by decide +kernel
theorem dL_law_442 : decode cL_law 442 = .ok (.iload_n 3, 1) := by decide +kernel
theorem dL_law_443 : decode cL_law 443 = .ok (.iconst 2, 1) := by decide +kernel
theorem dL_law_444 : decode cL_law 444 = .ok (.iadd, 1) := by decide +kernel
theorem dL_law_445 : decode cL_law 445 = .ok (.iaload, 1) := by decide +kernel
theorem dL_law_446 : decode cL_law 446 = .ok (.invokevirtual 61, 3) := by decide +kernel
theorem dL_law_449 : decode cL_law 449 = .ok (.aload_n 2, 1) := by decide +kernel
theorem dL_law_450 : decode cL_law 450 = .ok (.aload_n 0, 1) := by decide +kernel
theorem dL_law_451 : decode cL_law 451 = .ok (.iload_n 3, 1) := by decide +kernel
theorem dL_law_452 : decode cL_law 452 = .ok (.iconst 1, 1) := by decide +kernel
theorem dL_law_453 : decode cL_law 453 = .ok (.iadd, 1) := by decide +kernel
theorem dL_law_454 : decode cL_law 454 = .ok (.iaload, 1) := by decide +kernel
theorem dL_law_455 : decode cL_law 455 = .ok (.aload_n 0, 1) := by decide +kernel
theorem dL_law_456 : decode cL_law 456 = .ok (.iload_n 3, 1) := by decide +kernel
theorem dL_law_457 : decode cL_law 457 = .ok (.iconst 2, 1) := by decide +kernel
theorem dL_law_458 : decode cL_law 458 = .ok (.iadd, 1) := by decide +kernel
theorem dL_law_459 : decode cL_law 459 = .ok (.iaload, 1) := by decide +kernel
theorem dL_law_460 : decode cL_law 460 = .ok (.invokevirtual 64, 3) := by decide +kernel
theorem dL_law_463 : decode cL_law 463 = .ok (.if_icmp .eq 244, 3) := by decide +kernel
theorem dL_law_466 : decode cL_law 466 = .ok (.iconst 0, 1) := by decide +kernel
theorem dL_law_467 : decode cL_law 467 = .ok (.ireturn, 1) := by decide +kernel
theorem dL_law_468 : decode cL_law 468 = .ok (.aload_n 1, 1) := by decide +kernel
theorem dL_law_469 : decode cL_law 469 = .ok (.aload_n 0, 1) := by decide +kernel
theorem dL_law_470 : decode cL_law 470 = .ok (.iload_n 3, 1) := by decide +kernel
theorem dL_law_471 : decode cL_law 471 = .ok (.iconst 1, 1) := by decide +kernel
theorem dL_law_472 : decode cL_law 472 = .ok (.iadd, 1) := by decide +kernel
theorem dL_law_473 : decode cL_law 473 = .ok (.iaload, 1) := by decide +kernel
theorem dL_law_474 : decode cL_law 474 = .ok (.aload_n 0, 1) := by decide +kernel
theorem dL_law_475 : decode cL_law 475 = .ok (.iload_n 3, 1) := by decide +kernel
theorem dL_law_476 : decode cL_law 476 = .ok (.iconst 2, 1) := by decide +kernel
theorem dL_law_477 : decode cL_law 477 = .ok (.iadd, 1) := by decide +kernel
theorem dL_law_478 : decode cL_law 478 = .ok (.iaload, 1) := by decide +kernel
theorem dL_law_479 : decode cL_law 479 = .ok (.aload_n 0, 1) := by decide +kernel
theorem dL_law_480 : decode cL_law 480 = .ok (.iload_n 3, 1) := by decide +kernel
theorem dL_law_481 : decode cL_law 481 = .ok (.iconst 3, 1) := by decide +kernel
theorem dL_law_482 : decode cL_law 482 = .ok (.iadd, 1) := by decide +kernel
theorem dL_law_483 : decode cL_law 483 = .ok (.iaload, 1) := by decide +kernel
theorem dL_law_484 : decode cL_law 484 = .ok (.invokevirtual 65, 3) := by decide +kernel
theorem dL_law_487 : decode cL_law 487 = .ok (.aload_n 2, 1) := by decide +kernel
theorem dL_law_488 : decode cL_law 488 = .ok (.aload_n 0, 1) := by decide +kernel
theorem dL_law_489 : decode cL_law 489 = .ok (.iload_n 3, 1) := by decide +kernel
theorem dL_law_490 : decode cL_law 490 = .ok (.iconst 1, 1) := by decide +kernel
theorem dL_law_491 : decode cL_law 491 = .ok (.iadd, 1) := by decide +kernel
theorem dL_law_492 : decode cL_law 492 = .ok (.iaload, 1) := by decide +kernel
theorem dL_law_493 : decode cL_law 493 = .ok (.aload_n 0, 1) := by decide +kernel
theorem dL_law_494 : decode cL_law 494 = .ok (.iload_n 3, 1) := by decide +kernel
theorem dL_law_495 : decode cL_law 495 = .ok (.iconst 2, 1) := by decide +kernel
theorem dL_law_496 : decode cL_law 496 = .ok (.iadd, 1) := by decide +kernel
theorem dL_law_497 : decode cL_law 497 = .ok (.iaload, 1) := by decide +kernel
theorem dL_law_498 : decode cL_law 498 = .ok (.aload_n 0, 1) := by decide +kernel
theorem dL_law_499 : decode cL_law 499 = .ok (.iload_n 3, 1) := by decide +kernel
theorem dL_law_500 : decode cL_law 500 = .ok (.iconst 3, 1) := by decide +kernel
theorem dL_law_501 : decode cL_law 501 = .ok (.iadd, 1) := by decide +kernel
theorem dL_law_502 : decode cL_law 502 = .ok (.iaload, 1) := by decide +kernel
theorem dL_law_503 : decode cL_law 503 = .ok (.invokevirtual 69, 3) := by decide +kernel
theorem dL_law_506 : decode cL_law 506 = .ok (.lcmp, 1) := by decide +kernel
theorem dL_law_507 : decode cL_law 507 = .ok (.ifCond .eq 200, 3) := by decide +kernel
theorem dL_law_510 : decode cL_law 510 = .ok (.iconst 0, 1) := by decide +kernel
theorem dL_law_511 : decode cL_law 511 = .ok (.ireturn, 1) := by decide +kernel
theorem dL_law_512 : decode cL_law 512 = .ok (.aload_n 1, 1) := by decide +kernel
theorem dL_law_513 : decode cL_law 513 = .ok (.aload_n 0, 1) := by decide +kernel
theorem dL_law_514 : decode cL_law 514 = .ok (.iload_n 3, 1) := by decide +kernel
theorem dL_law_515 : decode cL_law 515 = .ok (.iconst 1, 1) := by decide +kernel
theorem dL_law_516 : decode cL_law 516 = .ok (.iadd, 1) := by decide +kernel
theorem dL_law_517 : decode cL_law 517 = .ok (.iaload, 1) := by decide +kernel
theorem dL_law_518 : decode cL_law 518 = .ok (.aload_n 0, 1) := by decide +kernel
theorem dL_law_519 : decode cL_law 519 = .ok (.iload_n 3, 1) := by decide +kernel
theorem dL_law_520 : decode cL_law 520 = .ok (.iconst 2, 1) := by decide +kernel
theorem dL_law_521 : decode cL_law 521 = .ok (.iadd, 1) := by decide +kernel
theorem dL_law_522 : decode cL_law 522 = .ok (.iaload, 1) := by decide +kernel
theorem dL_law_523 : decode cL_law 523 = .ok (.aload_n 0, 1) := by decide +kernel
theorem dL_law_524 : decode cL_law 524 = .ok (.iload_n 3, 1) := by decide +kernel
theorem dL_law_525 : decode cL_law 525 = .ok (.iconst 3, 1) := by decide +kernel
theorem dL_law_526 : decode cL_law 526 = .ok (.iadd, 1) := by decide +kernel
theorem dL_law_527 : decode cL_law 527 = .ok (.iaload, 1) := by decide +kernel
theorem dL_law_528 : decode cL_law 528 = .ok (.invokevirtual 70, 3) := by decide +kernel
theorem dL_law_531 : decode cL_law 531 = .ok (.aload_n 2, 1) := by decide +kernel
theorem dL_law_532 : decode cL_law 532 = .ok (.aload_n 0, 1) := by decide +kernel
theorem dL_law_533 : decode cL_law 533 = .ok (.iload_n 3, 1) := by decide +kernel
theorem dL_law_534 : decode cL_law 534 = .ok (.iconst 1, 1) := by decide +kernel
theorem dL_law_535 : decode cL_law 535 = .ok (.iadd, 1) := by decide +kernel
theorem dL_law_536 : decode cL_law 536 = .ok (.iaload, 1) := by decide +kernel
theorem dL_law_537 : decode cL_law 537 = .ok (.aload_n 0, 1) := by decide +kernel
theorem dL_law_538 : decode cL_law 538 = .ok (.iload_n 3, 1) := by decide +kernel
theorem dL_law_539 : decode cL_law 539 = .ok (.iconst 2, 1) := by decide +kernel
theorem dL_law_540 : decode cL_law 540 = .ok (.iadd, 1) := by decide +kernel
theorem dL_law_541 : decode cL_law 541 = .ok (.iaload, 1) := by decide +kernel
theorem dL_law_542 : decode cL_law 542 = .ok (.aload_n 0, 1) := by decide +kernel
theorem dL_law_543 : decode cL_law 543 = .ok (.iload_n 3, 1) := by decide +kernel
theorem dL_law_544 : decode cL_law 544 = .ok (.iconst 3, 1) := by decide +kernel
theorem dL_law_545 : decode cL_law 545 = .ok (.iadd, 1) := by decide +kernel
theorem dL_law_546 : decode cL_law 546 = .ok (.iaload, 1) := by decide +kernel
theorem dL_law_547 : decode cL_law 547 = .ok (.invokevirtual 73, 3) := by decide +kernel
theorem dL_law_550 : decode cL_law 550 = .ok (.lcmp, 1) := by decide +kernel
theorem dL_law_551 : decode cL_law 551 = .ok (.ifCond .eq 156, 3) := by decide +kernel
theorem dL_law_554 : decode cL_law 554 = .ok (.iconst 0, 1) := by decide +kernel
theorem dL_law_555 : decode cL_law 555 = .ok (.ireturn, 1) := by decide +kernel
theorem dL_law_556 : decode cL_law 556 = .ok (.aload_n 1, 1) := by decide +kernel
theorem dL_law_557 : decode cL_law 557 = .ok (.aload_n 0, 1) := by decide +kernel
theorem dL_law_558 : decode cL_law 558 = .ok (.iload_n 3, 1) := by decide +kernel
theorem dL_law_559 : decode cL_law 559 = .ok (.iconst 1, 1) := by decide +kernel
theorem dL_law_560 : decode cL_law 560 = .ok (.iadd, 1) := by decide +kernel
theorem dL_law_561 : decode cL_law 561 = .ok (.iaload, 1) := by decide +kernel
theorem dL_law_562 : decode cL_law 562 = .ok (.aload_n 0, 1) := by decide +kernel
theorem dL_law_563 : decode cL_law 563 = .ok (.iload_n 3, 1) := by decide +kernel
theorem dL_law_564 : decode cL_law 564 = .ok (.iconst 2, 1) := by decide +kernel
theorem dL_law_565 : decode cL_law 565 = .ok (.iadd, 1) := by decide +kernel
theorem dL_law_566 : decode cL_law 566 = .ok (.iaload, 1) := by decide +kernel
theorem dL_law_567 : decode cL_law 567 = .ok (.invokevirtual 74, 3) := by decide +kernel
theorem dL_law_570 : decode cL_law 570 = .ok (.aload_n 2, 1) := by decide +kernel
theorem dL_law_571 : decode cL_law 571 = .ok (.aload_n 0, 1) := by decide +kernel
theorem dL_law_572 : decode cL_law 572 = .ok (.iload_n 3, 1) := by decide +kernel
theorem dL_law_573 : decode cL_law 573 = .ok (.iconst 1, 1) := by decide +kernel
theorem dL_law_574 : decode cL_law 574 = .ok (.iadd, 1) := by decide +kernel
theorem dL_law_575 : decode cL_law 575 = .ok (.iaload, 1) := by decide +kernel
theorem dL_law_576 : decode cL_law 576 = .ok (.aload_n 0, 1) := by decide +kernel
theorem dL_law_577 : decode cL_law 577 = .ok (.iload_n 3, 1) := by decide +kernel
theorem dL_law_578 : decode cL_law 578 = .ok (.iconst 2, 1) := by decide +kernel
theorem dL_law_579 : decode cL_law 579 = .ok (.iadd, 1) := by decide +kernel
theorem dL_law_580 : decode cL_law 580 = .ok (.iaload, 1) := by decide +kernel
theorem dL_law_581 : decode cL_law 581 = .ok (.invokevirtual 77, 3) := by decide +kernel
theorem dL_law_584 : decode cL_law 584 = .ok (.if_icmp .eq 123, 3) := by decide +kernel
theorem dL_law_587 : decode cL_law 587 = .ok (.iconst 0, 1) := by decide +kernel
theorem dL_law_588 : decode cL_law 588 = .ok (.ireturn, 1) := by decide +kernel
theorem dL_law_589 : decode cL_law 589 = .ok (.aload_n 1, 1) := by decide +kernel
theorem dL_law_590 : decode cL_law 590 = .ok (.aload_n 0, 1) := by decide +kernel
theorem dL_law_591 : decode cL_law 591 = .ok (.iload_n 3, 1) := by decide +kernel
theorem dL_law_592 : decode cL_law 592 = .ok (.iconst 1, 1) := by decide +kernel
theorem dL_law_593 : decode cL_law 593 = .ok (.iadd, 1) := by decide +kernel
theorem dL_law_594 : decode cL_law 594 = .ok (.iaload, 1) := by decide +kernel
theorem dL_law_595 : decode cL_law 595 = .ok (.aload_n 0, 1) := by decide +kernel
theorem dL_law_596 : decode cL_law 596 = .ok (.iload_n 3, 1) := by decide +kernel
theorem dL_law_597 : decode cL_law 597 = .ok (.iconst 2, 1) := by decide +kernel
theorem dL_law_598 : decode cL_law 598 = .ok (.iadd, 1) := by decide +kernel
theorem dL_law_599 : decode cL_law 599 = .ok (.iaload, 1) := by decide +kernel
theorem dL_law_600 : decode cL_law 600 = .ok (.invokevirtual 78, 3) := by decide +kernel
theorem dL_law_603 : decode cL_law 603 = .ok (.aload_n 2, 1) := by decide +kernel
theorem dL_law_604 : decode cL_law 604 = .ok (.aload_n 0, 1) := by decide +kernel
theorem dL_law_605 : decode cL_law 605 = .ok (.iload_n 3, 1) := by decide +kernel
theorem dL_law_606 : decode cL_law 606 = .ok (.iconst 1, 1) := by decide +kernel
theorem dL_law_607 : decode cL_law 607 = .ok (.iadd, 1) := by decide +kernel
theorem dL_law_608 : decode cL_law 608 = .ok (.iaload, 1) := by decide +kernel
theorem dL_law_609 : decode cL_law 609 = .ok (.aload_n 0, 1) := by decide +kernel
theorem dL_law_610 : decode cL_law 610 = .ok (.iload_n 3, 1) := by decide +kernel
theorem dL_law_611 : decode cL_law 611 = .ok (.iconst 2, 1) := by decide +kernel
theorem dL_law_612 : decode cL_law 612 = .ok (.iadd, 1) := by decide +kernel
theorem dL_law_613 : decode cL_law 613 = .ok (.iaload, 1) := by decide +kernel
theorem dL_law_614 : decode cL_law 614 = .ok (.invokevirtual 81, 3) := by decide +kernel
theorem dL_law_617 : decode cL_law 617 = .ok (.if_icmp .eq 90, 3) := by decide +kernel
theorem dL_law_620 : decode cL_law 620 = .ok (.iconst 0, 1) := by decide +kernel
theorem dL_law_621 : decode cL_law 621 = .ok (.ireturn, 1) := by decide +kernel
theorem dL_law_622 : decode cL_law 622 = .ok (.aload_n 1, 1) := by decide +kernel
theorem dL_law_623 : decode cL_law 623 = .ok (.invokevirtual 82, 3) := by decide +kernel
theorem dL_law_626 : decode cL_law 626 = .ok (.aload_n 2, 1) := by decide +kernel
theorem dL_law_627 : decode cL_law 627 = .ok (.invokevirtual 85, 3) := by decide +kernel
theorem dL_law_630 : decode cL_law 630 = .ok (.if_icmp .eq 77, 3) := by decide +kernel
theorem dL_law_633 : decode cL_law 633 = .ok (.iconst 0, 1) := by decide +kernel
theorem dL_law_634 : decode cL_law 634 = .ok (.ireturn, 1) := by decide +kernel
theorem dL_law_635 : decode cL_law 635 = .ok (.aload_n 1, 1) := by decide +kernel
theorem dL_law_636 : decode cL_law 636 = .ok (.aload_n 0, 1) := by decide +kernel
theorem dL_law_637 : decode cL_law 637 = .ok (.iload_n 3, 1) := by decide +kernel
theorem dL_law_638 : decode cL_law 638 = .ok (.iconst 1, 1) := by decide +kernel
theorem dL_law_639 : decode cL_law 639 = .ok (.iadd, 1) := by decide +kernel
theorem dL_law_640 : decode cL_law 640 = .ok (.iaload, 1) := by decide +kernel
theorem dL_law_641 : decode cL_law 641 = .ok (.invokevirtual 86, 3) := by decide +kernel
theorem dL_law_644 : decode cL_law 644 = .ok (.aload_n 2, 1) := by decide +kernel
theorem dL_law_645 : decode cL_law 645 = .ok (.aload_n 0, 1) := by decide +kernel
theorem dL_law_646 : decode cL_law 646 = .ok (.iload_n 3, 1) := by decide +kernel
theorem dL_law_647 : decode cL_law 647 = .ok (.iconst 1, 1) := by decide +kernel
theorem dL_law_648 : decode cL_law 648 = .ok (.iadd, 1) := by decide +kernel
theorem dL_law_649 : decode cL_law 649 = .ok (.iaload, 1) := by decide +kernel
theorem dL_law_650 : decode cL_law 650 = .ok (.invokevirtual 89, 3) := by decide +kernel
theorem dL_law_653 : decode cL_law 653 = .ok (.if_icmp .eq 54, 3) := by decide +kernel
theorem dL_law_656 : decode cL_law 656 = .ok (.iconst 0, 1) := by decide +kernel
theorem dL_law_657 : decode cL_law 657 = .ok (.ireturn, 1) := by decide +kernel
theorem dL_law_658 : decode cL_law 658 = .ok (.aload_n 1, 1) := by decide +kernel
theorem dL_law_659 : decode cL_law 659 = .ok (.invokevirtual 90, 3) := by decide +kernel
theorem dL_law_662 : decode cL_law 662 = .ok (.aload_n 2, 1) := by decide +kernel
theorem dL_law_663 : decode cL_law 663 = .ok (.invokevirtual 93, 3) := by decide +kernel
theorem dL_law_666 : decode cL_law 666 = .ok (.if_icmp .eq 41, 3) := by decide +kernel
theorem dL_law_669 : decode cL_law 669 = .ok (.iconst 0, 1) := by decide +kernel
theorem dL_law_670 : decode cL_law 670 = .ok (.ireturn, 1) := by decide +kernel
theorem dL_law_671 : decode cL_law 671 = .ok (.aload_n 1, 1) := by decide +kernel
theorem dL_law_672 : decode cL_law 672 = .ok (.aload_n 0, 1) := by decide +kernel
theorem dL_law_673 : decode cL_law 673 = .ok (.iload_n 3, 1) := by decide +kernel
theorem dL_law_674 : decode cL_law 674 = .ok (.iconst 1, 1) := by decide +kernel
theorem dL_law_675 : decode cL_law 675 = .ok (.iadd, 1) := by decide +kernel
theorem dL_law_676 : decode cL_law 676 = .ok (.iaload, 1) := by decide +kernel
theorem dL_law_677 : decode cL_law 677 = .ok (.invokevirtual 94, 3) := by decide +kernel
theorem dL_law_680 : decode cL_law 680 = .ok (.aload_n 2, 1) := by decide +kernel
theorem dL_law_681 : decode cL_law 681 = .ok (.aload_n 0, 1) := by decide +kernel
theorem dL_law_682 : decode cL_law 682 = .ok (.iload_n 3, 1) := by decide +kernel
theorem dL_law_683 : decode cL_law 683 = .ok (.iconst 1, 1) := by decide +kernel
theorem dL_law_684 : decode cL_law 684 = .ok (.iadd, 1) := by decide +kernel
theorem dL_law_685 : decode cL_law 685 = .ok (.iaload, 1) := by decide +kernel
theorem dL_law_686 : decode cL_law 686 = .ok (.invokevirtual 97, 3) := by decide +kernel
theorem dL_law_689 : decode cL_law 689 = .ok (.if_icmp .eq 18, 3) := by decide +kernel
theorem dL_law_692 : decode cL_law 692 = .ok (.iconst 0, 1) := by decide +kernel
theorem dL_law_693 : decode cL_law 693 = .ok (.ireturn, 1) := by decide +kernel
theorem dL_law_694 : decode cL_law 694 = .ok (.aload_n 1, 1) := by decide +kernel
theorem dL_law_695 : decode cL_law 695 = .ok (.invokevirtual 98, 3) := by decide +kernel
theorem dL_law_698 : decode cL_law 698 = .ok (.aload_n 2, 1) := by decide +kernel
theorem dL_law_699 : decode cL_law 699 = .ok (.invokevirtual 101, 3) := by decide +kernel
theorem dL_law_702 : decode cL_law 702 = .ok (.if_icmp .eq 5, 3) := by decide +kernel
theorem dL_law_705 : decode cL_law 705 = .ok (.iconst 0, 1) := by decide +kernel
theorem dL_law_706 : decode cL_law 706 = .ok (.ireturn, 1) := by decide +kernel
theorem dL_law_707 : decode cL_law 707 = .ok (.iinc 3 5, 3) := by decide +kernel
theorem dL_law_710 : decode cL_law 710 = .ok (.goto (-692), 3) := by decide +kernel
theorem dL_law_713 : decode cL_law 713 = .ok (.iconst 1, 1) := by decide +kernel
theorem dL_law_714 : decode cL_law 714 = .ok (.ireturn, 1) := by decide +kernel
end
section
theorem dX0_init_0 : decode cX0_init 0 = .ok (.aload_n 0, 1) := by decide +kernel
theorem dX0_init_1 : decode cX0_init 1 = .ok (.invokespecial 3, 3) := by decide +kernel
theorem dX0_init_4 : decode cX0_init 4 = .ok (.aload_n 0, 1) := by decide +kernel
theorem dX0_init_5 : decode cX0_init 5 = .ok (.iconst 1, 1) := by decide +kernel
theorem dX0_init_6 : decode cX0_init 6 = .ok (.putfield 9, 3) := by decide +kernel
theorem dX0_init_9 : decode cX0_init 9 = .ok (.aload_n 0, 1) := by decide +kernel
theorem dX0_init_10 : decode cX0_init 10 = .ok (.iconst 1, 1) := by decide +kernel
theorem dX0_init_11 : decode cX0_init 11 = .ok (.putfield 15, 3) := by decide +kernel
theorem dX0_init_14 : decode cX0_init 14 = .ok (.aload_n 0, 1) := by decide +kernel
theorem dX0_init_15 : decode cX0_init 15 = .ok (.iconst 0, 1) := by decide +kernel
theorem dX0_init_16 : decode cX0_init 16 = .ok (.putfield 18, 3) := by decide +kernel
theorem dX0_init_19 : decode cX0_init 19 = .ok (.aload_n 0, 1) := by decide +kernel
theorem dX0_init_20 : decode cX0_init 20 = .ok (.iconst 0, 1) := by decide +kernel
theorem dX0_init_21 : decode cX0_init 21 = .ok (.putfield 21, 3) := by decide +kernel
theorem dX0_init_24 : decode cX0_init 24 = .ok (.aload_n 0, 1) := by decide +kernel
theorem dX0_init_25 : decode cX0_init 25 = .ok (.getstatic 24, 3) := by decide +kernel
theorem dX0_init_28 : decode cX0_init 28 = .ok (.arraylength, 1) := by decide +kernel
theorem dX0_init_29 : decode cX0_init 29 = .ok (.newarray .int, 2) := by decide +kernel
theorem dX0_init_31 : decode cX0_init 31 = .ok (.putfield 28, 3) := by decide +kernel
theorem dX0_init_34 : decode cX0_init 34 = .ok (.aload_n 0, 1) := by decide +kernel
theorem dX0_init_35 : decode cX0_init 35 = .ok (.iconst 0, 1) := by decide +kernel
theorem dX0_init_36 : decode cX0_init 36 = .ok (.putfield 31, 3) := by decide +kernel
theorem dX0_init_39 : decode cX0_init 39 = .ok (.aload_n 0, 1) := by decide +kernel
theorem dX0_init_40 : decode cX0_init 40 = .ok (.bipush 10, 2) := by decide +kernel
theorem dX0_init_42 : decode cX0_init 42 = .ok (.putfield 34, 3) := by decide +kernel
theorem dX0_init_45 : decode cX0_init 45 = .ok (.aload_n 0, 1) := by decide +kernel
theorem dX0_init_46 : decode cX0_init 46 = .ok (.iconst 0, 1) := by decide +kernel
theorem dX0_init_47 : decode cX0_init 47 = .ok (.putfield 37, 3) := by decide +kernel
theorem dX0_init_50 : decode cX0_init 50 = .ok (.aload_n 0, 1) := by decide +kernel
theorem dX0_init_51 : decode cX0_init 51 = .ok (.iconst 0, 1) := by decide +kernel
theorem dX0_init_52 : decode cX0_init 52 = .ok (.putfield 40, 3) := by decide +kernel
theorem dX0_init_55 : decode cX0_init 55 = .ok (.aload_n 0, 1) := by decide +kernel
theorem dX0_init_56 : decode cX0_init 56 = .ok (.iconst 0, 1) := by decide +kernel
theorem dX0_init_57 : decode cX0_init 57 = .ok (.putfield 43, 3) := by decide +kernel
theorem dX0_init_60 : decode cX0_init 60 = .ok (.aload_n 0, 1) := by decide +kernel
theorem dX0_init_61 : decode cX0_init 61 = .ok (.bipush 6, 2) := by decide +kernel
theorem dX0_init_63 : decode cX0_init 63 = .ok (.anewarray 46, 3) := by decide +kernel
theorem dX0_init_66 : decode cX0_init 66 = .ok (.putfield 48, 3) := by decide +kernel
theorem dX0_init_69 : decode cX0_init 69 = .ok (.aload_n 0, 1) := by decide +kernel
theorem dX0_init_70 : decode cX0_init 70 = .ok (.iconst 0, 1) := by decide +kernel
theorem dX0_init_71 : decode cX0_init 71 = .ok (.putfield 52, 3) := by decide +kernel
theorem dX0_init_74 : decode cX0_init 74 = .ok (.iconst 0, 1) := by decide +kernel
theorem dX0_init_75 : decode cX0_init 75 = .ok (.istore_n 1, 1) := by decide +kernel
theorem dX0_init_76 : decode cX0_init 76 = .ok (.iload_n 1, 1) := by decide +kernel
theorem dX0_init_77 : decode cX0_init 77 = .ok (.aload_n 0, 1) := by decide +kernel
theorem dX0_init_78 : decode cX0_init 78 = .ok (.getfield 28, 3) := by decide +kernel
theorem dX0_init_81 : decode cX0_init 81 = .ok (.arraylength, 1) := by decide +kernel
theorem dX0_init_82 : decode cX0_init 82 = .ok (.if_icmp .ge 28, 3) := by decide +kernel
theorem dX0_init_85 : decode cX0_init 85 = .ok (.iload_n 1, 1) := by decide +kernel
theorem dX0_init_86 : decode cX0_init 86 = .ok (.getstatic 24, 3) := by decide +kernel
theorem dX0_init_89 : decode cX0_init 89 = .ok (.arraylength, 1) := by decide +kernel
theorem dX0_init_90 : decode cX0_init 90 = .ok (.if_icmp .ge 20, 3) := by decide +kernel
theorem dX0_init_93 : decode cX0_init 93 = .ok (.aload_n 0, 1) := by decide +kernel
theorem dX0_init_94 : decode cX0_init 94 = .ok (.getfield 28, 3) := by decide +kernel
theorem dX0_init_97 : decode cX0_init 97 = .ok (.iload_n 1, 1) := by decide +kernel
theorem dX0_init_98 : decode cX0_init 98 = .ok (.getstatic 24, 3) := by decide +kernel
theorem dX0_init_101 : decode cX0_init 101 = .ok (.iload_n 1, 1) := by decide +kernel
theorem dX0_init_102 : decode cX0_init 102 = .ok (.iaload, 1) := by decide +kernel
theorem dX0_init_103 : decode cX0_init 103 = .ok (.iastore, 1) := by decide +kernel
theorem dX0_init_104 : decode cX0_init 104 = .ok (.iinc 1 1, 3) := by decide +kernel
theorem dX0_init_107 : decode cX0_init 107 = .ok (.goto (-31), 3) := by decide +kernel
theorem dX0_init_110 : decode cX0_init 110 = .ok (.iconst 0, 1) := by decide +kernel
theorem dX0_init_111 : decode cX0_init 111 = .ok (.istore_n 1, 1) := by decide +kernel
theorem dX0_init_112 : decode cX0_init 112 = .ok (.iload_n 1, 1) := by decide +kernel
theorem dX0_init_113 : decode cX0_init 113 = .ok (.aload_n 0, 1) := by decide +kernel
theorem dX0_init_114 : decode cX0_init 114 = .ok (.getfield 48, 3) := by decide +kernel
theorem dX0_init_117 : decode cX0_init 117 = .ok (.arraylength, 1) := by decide +kernel
theorem dX0_init_118 : decode cX0_init 118 = .ok (.if_icmp .ge 22, 3) := by decide +kernel
theorem dX0_init_121 : decode cX0_init 121 = .ok (.aload_n 0, 1) := by decide +kernel
theorem dX0_init_122 : decode cX0_init 122 = .ok (.getfield 48, 3) := by decide +kernel
theorem dX0_init_125 : decode cX0_init 125 = .ok (.iload_n 1, 1) := by decide +kernel
theorem dX0_init_126 : decode cX0_init 126 = .ok (.new 46, 3) := by decide +kernel
theorem dX0_init_129 : decode cX0_init 129 = .ok (.dup, 1) := by decide +kernel
theorem dX0_init_130 : decode cX0_init 130 = .ok (.invokespecial 55, 3) := by decide +kernel
theorem dX0_init_133 : decode cX0_init 133 = .ok (.aastore, 1) := by decide +kernel
theorem dX0_init_134 : decode cX0_init 134 = .ok (.iinc 1 1, 3) := by decide +kernel
theorem dX0_init_137 : decode cX0_init 137 = .ok (.goto (-25), 3) := by decide +kernel
theorem dX0_init_140 : decode cX0_init 140 = .ok (.return_, 1) := by decide +kernel
theorem dX0_takeFrom_0 : decode cX0_takeFrom 0 = .ok (.aload_n 0, 1) := by decide +kernel
theorem dX0_takeFrom_1 : decode cX0_takeFrom 1 = .ok (.aload_n 1, 1) := by decide +kernel
theorem dX0_takeFrom_2 : decode cX0_takeFrom 2 = .ok (.getfield 9, 3) := by decide +kernel
theorem dX0_takeFrom_5 : decode cX0_takeFrom 5 = .ok (.putfield 9, 3) := by decide +kernel
theorem dX0_takeFrom_8 : decode cX0_takeFrom 8 = .ok (.aload_n 0, 1) := by decide +kernel
theorem dX0_takeFrom_9 : decode cX0_takeFrom 9 = .ok (.aload_n 1, 1) := by decide +kernel
theorem dX0_takeFrom_10 : decode cX0_takeFrom 10 = .ok (.getfield 15, 3) := by decide +kernel
theorem dX0_takeFrom_13 : decode cX0_takeFrom 13 = .ok (.putfield 15, 3) := by decide +kernel
theorem dX0_takeFrom_16 : decode cX0_takeFrom 16 = .ok (.aload_n 0, 1) := by decide +kernel
theorem dX0_takeFrom_17 : decode cX0_takeFrom 17 = .ok (.aload_n 1, 1) := by decide +kernel
theorem dX0_takeFrom_18 : decode cX0_takeFrom 18 = .ok (.getfield 18, 3) := by decide +kernel
theorem dX0_takeFrom_21 : decode cX0_takeFrom 21 = .ok (.putfield 18, 3) := by decide +kernel
theorem dX0_takeFrom_24 : decode cX0_takeFrom 24 = .ok (.aload_n 0, 1) := by decide +kernel
theorem dX0_takeFrom_25 : decode cX0_takeFrom 25 = .ok (.aload_n 1, 1) := by decide +kernel
theorem dX0_takeFrom_26 : decode cX0_takeFrom 26 = .ok (.getfield 21, 3) := by decide +kernel
theorem dX0_takeFrom_29 : decode cX0_takeFrom 29 = .ok (.putfield 21, 3) := by decide +kernel
theorem dX0_takeFrom_32 : decode cX0_takeFrom 32 = .ok (.iconst 0, 1) := by decide +kernel
theorem dX0_takeFrom_33 : decode cX0_takeFrom 33 = .ok (.istore_n 2, 1) := by decide +kernel
theorem dX0_takeFrom_34 : decode cX0_takeFrom 34 = .ok (.iload_n 2, 1) := by decide +kernel
theorem dX0_takeFrom_35 : decode cX0_takeFrom 35 = .ok (.aload_n 0, 1) := by decide +kernel
theorem dX0_takeFrom_36 : decode cX0_takeFrom 36 = .ok (.getfield 28, 3) := by decide +kernel
theorem dX0_takeFrom_39 : decode cX0_takeFrom 39 = .ok (.arraylength, 1) := by decide +kernel
theorem dX0_takeFrom_40 : decode cX0_takeFrom 40 = .ok (.if_icmp .ge 20, 3) := by decide +kernel
theorem dX0_takeFrom_43 : decode cX0_takeFrom 43 = .ok (.aload_n 0, 1) := by decide +kernel
theorem dX0_takeFrom_44 : decode cX0_takeFrom 44 = .ok (.getfield 28, 3) := by decide +kernel
theorem dX0_takeFrom_47 : decode cX0_takeFrom 47 = .ok (.iload_n 2, 1) := by decide +kernel
theorem dX0_takeFrom_48 : decode cX0_takeFrom 48 = .ok (.aload_n 1, 1) := by decide +kernel
theorem dX0_takeFrom_49 : decode cX0_takeFrom 49 = .ok (.iload_n 2, 1) := by decide +kernel
theorem dX0_takeFrom_50 : decode cX0_takeFrom 50 = .ok (.invokevirtual 56, 3) := by decide +kernel
theorem dX0_takeFrom_53 : decode cX0_takeFrom 53 = .ok (.iastore, 1) := by decide +kernel
theorem dX0_takeFrom_54 : decode cX0_takeFrom 54 = .ok (.iinc 2 1, 3) := by decide +kernel
theorem dX0_takeFrom_57 : decode cX0_takeFrom 57 = .ok (.goto (-23), 3) := by decide +kernel
theorem dX0_takeFrom_60 : decode cX0_takeFrom 60 = .ok (.aload_n 0, 1) := by decide +kernel
theorem dX0_takeFrom_61 : decode cX0_takeFrom 61 = .ok (.aload_n 1, 1) := by decide +kernel
theorem dX0_takeFrom_62 : decode cX0_takeFrom 62 = .ok (.getfield 31, 3) := by decide +kernel
theorem dX0_takeFrom_65 : decode cX0_takeFrom 65 = .ok (.putfield 31, 3) := by decide +kernel
theorem dX0_takeFrom_68 : decode cX0_takeFrom 68 = .ok (.aload_n 0, 1) := by decide +kernel
theorem dX0_takeFrom_69 : decode cX0_takeFrom 69 = .ok (.aload_n 1, 1) := by decide +kernel
theorem dX0_takeFrom_70 : decode cX0_takeFrom 70 = .ok (.getfield 34, 3) := by decide +kernel
theorem dX0_takeFrom_73 : decode cX0_takeFrom 73 = .ok (.putfield 34, 3) := by decide +kernel
theorem dX0_takeFrom_76 : decode cX0_takeFrom 76 = .ok (.aload_n 0, 1) := by decide +kernel
theorem dX0_takeFrom_77 : decode cX0_takeFrom 77 = .ok (.aload_n 1, 1) := by decide +kernel
theorem dX0_takeFrom_78 : decode cX0_takeFrom 78 = .ok (.getfield 37, 3) := by decide +kernel
theorem dX0_takeFrom_81 : decode cX0_takeFrom 81 = .ok (.putfield 37, 3) := by decide +kernel
theorem dX0_takeFrom_84 : decode cX0_takeFrom 84 = .ok (.aload_n 0, 1) := by decide +kernel
theorem dX0_takeFrom_85 : decode cX0_takeFrom 85 = .ok (.aload_n 1, 1) := by decide +kernel
theorem dX0_takeFrom_86 : decode cX0_takeFrom 86 = .ok (.getfield 40, 3) := by decide +kernel
theorem dX0_takeFrom_89 : decode cX0_takeFrom 89 = .ok (.putfield 40, 3) := by decide +kernel
theorem dX0_takeFrom_92 : decode cX0_takeFrom 92 = .ok (.aload_n 0, 1) := by decide +kernel
theorem dX0_takeFrom_93 : decode cX0_takeFrom 93 = .ok (.aload_n 1, 1) := by decide +kernel
theorem dX0_takeFrom_94 : decode cX0_takeFrom 94 = .ok (.getfield 43, 3) := by decide +kernel
theorem dX0_takeFrom_97 : decode cX0_takeFrom 97 = .ok (.putfield 43, 3) := by decide +kernel
theorem dX0_takeFrom_100 : decode cX0_takeFrom 100 = .ok (.aload_n 0, 1) := by decide +kernel
theorem dX0_takeFrom_101 : decode cX0_takeFrom 101 = .ok (.aload_n 1, 1) := by decide +kernel
theorem dX0_takeFrom_102 : decode cX0_takeFrom 102 = .ok (.getfield 52, 3) := by decide +kernel
theorem dX0_takeFrom_105 : decode cX0_takeFrom 105 = .ok (.putfield 52, 3) := by decide +kernel
theorem dX0_takeFrom_108 : decode cX0_takeFrom 108 = .ok (.iconst 0, 1) := by decide +kernel
theorem dX0_takeFrom_109 : decode cX0_takeFrom 109 = .ok (.istore_n 2, 1) := by decide +kernel
theorem dX0_takeFrom_110 : decode cX0_takeFrom 110 = .ok (.iload_n 2, 1) := by decide +kernel
theorem dX0_takeFrom_111 : decode cX0_takeFrom 111 = .ok (.aload_n 0, 1) := by decide +kernel
theorem dX0_takeFrom_112 : decode cX0_takeFrom 112 = .ok (.getfield 52, 3) := by decide +kernel
theorem dX0_takeFrom_115 : decode cX0_takeFrom 115 = .ok (.if_icmp .ge 37, 3) := by decide +kernel
theorem dX0_takeFrom_118 : decode cX0_takeFrom 118 = .ok (.aload_n 0, 1) := by decide +kernel
theorem dX0_takeFrom_119 : decode cX0_takeFrom 119 = .ok (.iload_n 2, 1) := by decide +kernel
theorem dX0_takeFrom_120 : decode cX0_takeFrom 120 = .ok (.invokevirtual 60, 3) := by decide +kernel
theorem dX0_takeFrom_123 : decode cX0_takeFrom 123 = .ok (.astore_n 3, 1) := by decide +kernel
theorem dX0_takeFrom_124 : decode cX0_takeFrom 124 = .ok (.aload_n 1, 1) := by decide +kernel
theorem dX0_takeFrom_125 : decode cX0_takeFrom 125 = .ok (.iload_n 2, 1) := by decide +kernel
theorem dX0_takeFrom_126 : decode cX0_takeFrom 126 = .ok (.invokevirtual 60, 3) := by decide +kernel
theorem dX0_takeFrom_129 : decode cX0_takeFrom 129 = .ok (.astore 4, 2) := by decide +kernel
theorem dX0_takeFrom_131 : decode cX0_takeFrom 131 = .ok (.aload_n 3, 1) := by decide +kernel
theorem dX0_takeFrom_132 : decode cX0_takeFrom 132 = .ok (.ifnull 14, 3) := by decide +kernel
theorem dX0_takeFrom_135 : decode cX0_takeFrom 135 = .ok (.aload 4, 2) := by decide +kernel
theorem dX0_takeFrom_137 : decode cX0_takeFrom 137 = .ok (.ifnull 9, 3) := by decide +kernel
theorem dX0_takeFrom_140 : decode cX0_takeFrom 140 = .ok (.aload_n 3, 1) := by decide +kernel
theorem dX0_takeFrom_141 : decode cX0_takeFrom 141 = .ok (.aload 4, 2) := by decide +kernel
theorem dX0_takeFrom_143 : decode cX0_takeFrom 143 = .ok (.invokevirtual 64, 3) := by decide +kernel
theorem dX0_takeFrom_146 : decode cX0_takeFrom 146 = .ok (.iinc 2 1, 3) := by decide +kernel
theorem dX0_takeFrom_149 : decode cX0_takeFrom 149 = .ok (.goto (-39), 3) := by decide +kernel
theorem dX0_takeFrom_152 : decode cX0_takeFrom 152 = .ok (.return_, 1) := by decide +kernel
theorem dX0_setting_0 : decode cX0_setting 0 = .ok (.iload_n 1, 1) := by decide +kernel
theorem dX0_setting_1 : decode cX0_setting 1 = .ok (.ifCond .lt 21, 3) := by decide +kernel
theorem dX0_setting_4 : decode cX0_setting 4 = .ok (.iload_n 1, 1) := by decide +kernel
theorem dX0_setting_5 : decode cX0_setting 5 = .ok (.aload_n 0, 1) := by decide +kernel
theorem dX0_setting_6 : decode cX0_setting 6 = .ok (.getfield 28, 3) := by decide +kernel
theorem dX0_setting_9 : decode cX0_setting 9 = .ok (.arraylength, 1) := by decide +kernel
theorem dX0_setting_10 : decode cX0_setting 10 = .ok (.if_icmp .ge 12, 3) := by decide +kernel
theorem dX0_setting_13 : decode cX0_setting 13 = .ok (.aload_n 0, 1) := by decide +kernel
theorem dX0_setting_14 : decode cX0_setting 14 = .ok (.getfield 28, 3) := by decide +kernel
theorem dX0_setting_17 : decode cX0_setting 17 = .ok (.iload_n 1, 1) := by decide +kernel
theorem dX0_setting_18 : decode cX0_setting 18 = .ok (.iaload, 1) := by decide +kernel
theorem dX0_setting_19 : decode cX0_setting 19 = .ok (.goto 4, 3) := by decide +kernel
theorem dX0_setting_22 : decode cX0_setting 22 = .ok (.iconst 0, 1) := by decide +kernel
theorem dX0_setting_23 : decode cX0_setting 23 = .ok (.ireturn, 1) := by decide +kernel
theorem dX0_changeSetting_0 : decode cX0_changeSetting 0 = .ok (.iload_n 1, 1) := by decide +kernel
theorem dX0_changeSetting_1 : decode cX0_changeSetting 1 = .ok (.ifCond .lt 19, 3) := by decide +kernel
theorem dX0_changeSetting_4 : decode cX0_changeSetting 4 = .ok (.iload_n 1, 1) := by decide +kernel
theorem dX0_changeSetting_5 : decode cX0_changeSetting 5 = .ok (.aload_n 0, 1) := by decide +kernel
theorem dX0_changeSetting_6 : decode cX0_changeSetting 6 = .ok (.getfield 28, 3) := by decide +kernel
theorem dX0_changeSetting_9 : decode cX0_changeSetting 9 = .ok (.arraylength, 1) := by decide +kernel
theorem dX0_changeSetting_10 : decode cX0_changeSetting 10 = .ok (.if_icmp .ge 10, 3) := by decide +kernel
theorem dX0_changeSetting_13 : decode cX0_changeSetting 13 = .ok (.aload_n 0, 1) := by decide +kernel
theorem dX0_changeSetting_14 : decode cX0_changeSetting 14 = .ok (.getfield 28, 3) := by decide +kernel
theorem dX0_changeSetting_17 : decode cX0_changeSetting 17 = .ok (.iload_n 1, 1) := by decide +kernel
theorem dX0_changeSetting_18 : decode cX0_changeSetting 18 = .ok (.iload_n 2, 1) := by decide +kernel
theorem dX0_changeSetting_19 : decode cX0_changeSetting 19 = .ok (.iastore, 1) := by decide +kernel
theorem dX0_changeSetting_20 : decode cX0_changeSetting 20 = .ok (.return_, 1) := by decide +kernel
theorem dX0_signX_0 : decode cX0_signX 0 = .ok (.aload_n 0, 1) := by decide +kernel
theorem dX0_signX_1 : decode cX0_signX 1 = .ok (.iconst 0, 1) := by decide +kernel
theorem dX0_signX_2 : decode cX0_signX 2 = .ok (.invokevirtual 56, 3) := by decide +kernel
theorem dX0_signX_5 : decode cX0_signX 5 = .ok (.ifCond .ne 7, 3) := by decide +kernel
theorem dX0_signX_8 : decode cX0_signX 8 = .ok (.iconst 1, 1) := by decide +kernel
theorem dX0_signX_9 : decode cX0_signX 9 = .ok (.goto 4, 3) := by decide +kernel
theorem dX0_signX_12 : decode cX0_signX 12 = .ok (.iconst (-1), 1) := by decide +kernel
theorem dX0_signX_13 : decode cX0_signX 13 = .ok (.ireturn, 1) := by decide +kernel
theorem dX0_signY_0 : decode cX0_signY 0 = .ok (.aload_n 0, 1) := by decide +kernel
theorem dX0_signY_1 : decode cX0_signY 1 = .ok (.iconst 0, 1) := by decide +kernel
theorem dX0_signY_2 : decode cX0_signY 2 = .ok (.invokevirtual 56, 3) := by decide +kernel
theorem dX0_signY_5 : decode cX0_signY 5 = .ok (.iconst 1, 1) := by decide +kernel
theorem dX0_signY_6 : decode cX0_signY 6 = .ok (.if_icmp .ne 7, 3) := by decide +kernel
theorem dX0_signY_9 : decode cX0_signY 9 = .ok (.iconst (-1), 1) := by decide +kernel
theorem dX0_signY_10 : decode cX0_signY 10 = .ok (.goto 4, 3) := by decide +kernel
theorem dX0_signY_13 : decode cX0_signY 13 = .ok (.iconst 1, 1) := by decide +kernel
theorem dX0_signY_14 : decode cX0_signY 14 = .ok (.ireturn, 1) := by decide +kernel
theorem dX0_find_0 : decode cX0_find 0 = .ok (.iload_n 1, 1) := by decide +kernel
theorem dX0_find_1 : decode cX0_find 1 = .ok (.ifCond .lt 29, 3) := by decide +kernel
theorem dX0_find_4 : decode cX0_find 4 = .ok (.iload_n 1, 1) := by decide +kernel
theorem dX0_find_5 : decode cX0_find 5 = .ok (.aload_n 0, 1) := by decide +kernel
theorem dX0_find_6 : decode cX0_find 6 = .ok (.getfield 52, 3) := by decide +kernel
theorem dX0_find_9 : decode cX0_find 9 = .ok (.if_icmp .ge 21, 3) := by decide +kernel
theorem dX0_find_12 : decode cX0_find 12 = .ok (.iload_n 1, 1) := by decide +kernel
theorem dX0_find_13 : decode cX0_find 13 = .ok (.aload_n 0, 1) := by decide +kernel
theorem dX0_find_14 : decode cX0_find 14 = .ok (.getfield 48, 3) := by decide +kernel
theorem dX0_find_17 : decode cX0_find 17 = .ok (.arraylength, 1) := by decide +kernel
theorem dX0_find_18 : decode cX0_find 18 = .ok (.if_icmp .ge 12, 3) := by decide +kernel
theorem dX0_find_21 : decode cX0_find 21 = .ok (.aload_n 0, 1) := by decide +kernel
theorem dX0_find_22 : decode cX0_find 22 = .ok (.getfield 48, 3) := by decide +kernel
theorem dX0_find_25 : decode cX0_find 25 = .ok (.iload_n 1, 1) := by decide +kernel
theorem dX0_find_26 : decode cX0_find 26 = .ok (.aaload, 1) := by decide +kernel
theorem dX0_find_27 : decode cX0_find 27 = .ok (.goto 4, 3) := by decide +kernel
theorem dX0_find_30 : decode cX0_find 30 = .ok (.aconst_null, 1) := by decide +kernel
theorem dX0_find_31 : decode cX0_find 31 = .ok (.areturn, 1) := by decide +kernel
theorem dX0_spare_0 : decode cX0_spare 0 = .ok (.aload_n 0, 1) := by decide +kernel
theorem dX0_spare_1 : decode cX0_spare 1 = .ok (.getfield 52, 3) := by decide +kernel
theorem dX0_spare_4 : decode cX0_spare 4 = .ok (.ifCond .lt 27, 3) := by decide +kernel
theorem dX0_spare_7 : decode cX0_spare 7 = .ok (.aload_n 0, 1) := by decide +kernel
theorem dX0_spare_8 : decode cX0_spare 8 = .ok (.getfield 52, 3) := by decide +kernel
theorem dX0_spare_11 : decode cX0_spare 11 = .ok (.aload_n 0, 1) := by decide +kernel
theorem dX0_spare_12 : decode cX0_spare 12 = .ok (.getfield 48, 3) := by decide +kernel
theorem dX0_spare_15 : decode cX0_spare 15 = .ok (.arraylength, 1) := by decide +kernel
theorem dX0_spare_16 : decode cX0_spare 16 = .ok (.if_icmp .ge 15, 3) := by decide +kernel
theorem dX0_spare_19 : decode cX0_spare 19 = .ok (.aload_n 0, 1) := by decide +kernel
theorem dX0_spare_20 : decode cX0_spare 20 = .ok (.getfield 48, 3) := by decide +kernel
theorem dX0_spare_23 : decode cX0_spare 23 = .ok (.aload_n 0, 1) := by decide +kernel
theorem dX0_spare_24 : decode cX0_spare 24 = .ok (.getfield 52, 3) := by decide +kernel
theorem dX0_spare_27 : decode cX0_spare 27 = .ok (.aaload, 1) := by decide +kernel
theorem dX0_spare_28 : decode cX0_spare 28 = .ok (.goto 4, 3) := by decide +kernel
theorem dX0_spare_31 : decode cX0_spare 31 = .ok (.aconst_null, 1) := by decide +kernel
theorem dX0_spare_32 : decode cX0_spare 32 = .ok (.areturn, 1) := by decide +kernel
theorem dX0_beginOriginal_0 : decode cX0_beginOriginal 0 = .ok (.aload_n 0, 1) := by decide +kernel
theorem dX0_beginOriginal_1 : decode cX0_beginOriginal 1 = .ok (.invokevirtual 68, 3) := by decide +kernel
theorem dX0_beginOriginal_4 : decode cX0_beginOriginal 4 = .ok (.astore_n 1, 1) := by decide +kernel
theorem dX0_beginOriginal_5 : decode cX0_beginOriginal 5 = .ok (.aload_n 1, 1) := by decide +kernel
theorem dX0_beginOriginal_6 : decode cX0_beginOriginal 6 = .ok (.ifnonnull 5, 3) := by decide +kernel
theorem dX0_beginOriginal_9 : decode cX0_beginOriginal 9 = .ok (.iconst (-1), 1) := by decide +kernel
theorem dX0_beginOriginal_10 : decode cX0_beginOriginal 10 = .ok (.ireturn, 1) := by decide +kernel
theorem dX0_beginOriginal_11 : decode cX0_beginOriginal 11 = .ok (.aload_n 1, 1) := by decide +kernel
theorem dX0_beginOriginal_12 : decode cX0_beginOriginal 12 = .ok (.iconst (-1), 1) := by decide +kernel
theorem dX0_beginOriginal_13 : decode cX0_beginOriginal 13 = .ok (.lconst 1, 1) := by decide +kernel
theorem dX0_beginOriginal_14 : decode cX0_beginOriginal 14 = .ok (.lconst 1, 1) := by decide +kernel
theorem dX0_beginOriginal_15 : decode cX0_beginOriginal 15 = .ok (.invokevirtual 72, 3) := by decide +kernel
theorem dX0_beginOriginal_18 : decode cX0_beginOriginal 18 = .ok (.aload_n 0, 1) := by decide +kernel
theorem dX0_beginOriginal_19 : decode cX0_beginOriginal 19 = .ok (.dup, 1) := by decide +kernel
theorem dX0_beginOriginal_20 : decode cX0_beginOriginal 20 = .ok (.getfield 52, 3) := by decide +kernel
theorem dX0_beginOriginal_23 : decode cX0_beginOriginal 23 = .ok (.iconst 1, 1) := by decide +kernel
theorem dX0_beginOriginal_24 : decode cX0_beginOriginal 24 = .ok (.iadd, 1) := by decide +kernel
theorem dX0_beginOriginal_25 : decode cX0_beginOriginal 25 = .ok (.putfield 52, 3) := by decide +kernel
theorem dX0_beginOriginal_28 : decode cX0_beginOriginal 28 = .ok (.aload_n 0, 1) := by decide +kernel
theorem dX0_beginOriginal_29 : decode cX0_beginOriginal 29 = .ok (.getfield 52, 3) := by decide +kernel
theorem dX0_beginOriginal_32 : decode cX0_beginOriginal 32 = .ok (.iconst 1, 1) := by decide +kernel
theorem dX0_beginOriginal_33 : decode cX0_beginOriginal 33 = .ok (.isub, 1) := by decide +kernel
theorem dX0_beginOriginal_34 : decode cX0_beginOriginal 34 = .ok (.ireturn, 1) := by decide +kernel
theorem dX0_hasCopies_0 : decode cX0_hasCopies 0 = .ok (.iconst 0, 1) := by decide +kernel
theorem dX0_hasCopies_1 : decode cX0_hasCopies 1 = .ok (.istore_n 2, 1) := by decide +kernel
theorem dX0_hasCopies_2 : decode cX0_hasCopies 2 = .ok (.iload_n 2, 1) := by decide +kernel
theorem dX0_hasCopies_3 : decode cX0_hasCopies 3 = .ok (.aload_n 0, 1) := by decide +kernel
theorem dX0_hasCopies_4 : decode cX0_hasCopies 4 = .ok (.getfield 52, 3) := by decide +kernel
theorem dX0_hasCopies_7 : decode cX0_hasCopies 7 = .ok (.if_icmp .ge 29, 3) := by decide +kernel
theorem dX0_hasCopies_10 : decode cX0_hasCopies 10 = .ok (.aload_n 0, 1) := by decide +kernel
theorem dX0_hasCopies_11 : decode cX0_hasCopies 11 = .ok (.iload_n 2, 1) := by decide +kernel
theorem dX0_hasCopies_12 : decode cX0_hasCopies 12 = .ok (.invokevirtual 60, 3) := by decide +kernel
theorem dX0_hasCopies_15 : decode cX0_hasCopies 15 = .ok (.astore_n 3, 1) := by decide +kernel
theorem dX0_hasCopies_16 : decode cX0_hasCopies 16 = .ok (.aload_n 3, 1) := by decide +kernel
theorem dX0_hasCopies_17 : decode cX0_hasCopies 17 = .ok (.ifnull 13, 3) := by decide +kernel
theorem dX0_hasCopies_20 : decode cX0_hasCopies 20 = .ok (.aload_n 3, 1) := by decide +kernel
theorem dX0_hasCopies_21 : decode cX0_hasCopies 21 = .ok (.getfield 76, 3) := by decide +kernel
theorem dX0_hasCopies_24 : decode cX0_hasCopies 24 = .ok (.iload_n 1, 1) := by decide +kernel
theorem dX0_hasCopies_25 : decode cX0_hasCopies 25 = .ok (.if_icmp .ne 5, 3) := by decide +kernel
theorem dX0_hasCopies_28 : decode cX0_hasCopies 28 = .ok (.iconst 1, 1) := by decide +kernel
theorem dX0_hasCopies_29 : decode cX0_hasCopies 29 = .ok (.ireturn, 1) := by decide +kernel
theorem dX0_hasCopies_30 : decode cX0_hasCopies 30 = .ok (.iinc 2 1, 3) := by decide +kernel
theorem dX0_hasCopies_33 : decode cX0_hasCopies 33 = .ok (.goto (-31), 3) := by decide +kernel
theorem dX0_hasCopies_36 : decode cX0_hasCopies 36 = .ok (.iconst 0, 1) := by decide +kernel
theorem dX0_hasCopies_37 : decode cX0_hasCopies 37 = .ok (.ireturn, 1) := by decide +kernel
theorem dX0_takeAway_0 : decode cX0_takeAway 0 = .ok (.aload_n 0, 1) := by decide +kernel
theorem dX0_takeAway_1 : decode cX0_takeAway 1 = .ok (.iload_n 1, 1) := by decide +kernel
theorem dX0_takeAway_2 : decode cX0_takeAway 2 = .ok (.invokevirtual 60, 3) := by decide +kernel
theorem dX0_takeAway_5 : decode cX0_takeAway 5 = .ok (.astore_n 2, 1) := by decide +kernel
theorem dX0_takeAway_6 : decode cX0_takeAway 6 = .ok (.iload_n 1, 1) := by decide +kernel
theorem dX0_takeAway_7 : decode cX0_takeAway 7 = .ok (.istore_n 3, 1) := by decide +kernel
theorem dX0_takeAway_8 : decode cX0_takeAway 8 = .ok (.iload_n 3, 1) := by decide +kernel
theorem dX0_takeAway_9 : decode cX0_takeAway 9 = .ok (.ifCond .lt 44, 3) := by decide +kernel
theorem dX0_takeAway_12 : decode cX0_takeAway 12 = .ok (.iload_n 3, 1) := by decide +kernel
theorem dX0_takeAway_13 : decode cX0_takeAway 13 = .ok (.iconst 1, 1) := by decide +kernel
theorem dX0_takeAway_14 : decode cX0_takeAway 14 = .ok (.iadd, 1) := by decide +kernel
theorem dX0_takeAway_15 : decode cX0_takeAway 15 = .ok (.aload_n 0, 1) := by decide +kernel
theorem dX0_takeAway_16 : decode cX0_takeAway 16 = .ok (.getfield 52, 3) := by decide +kernel
theorem dX0_takeAway_19 : decode cX0_takeAway 19 = .ok (.if_icmp .ge 34, 3) := by decide +kernel
theorem dX0_takeAway_22 : decode cX0_takeAway 22 = .ok (.iload_n 3, 1) := by decide +kernel
theorem dX0_takeAway_23 : decode cX0_takeAway 23 = .ok (.iconst 1, 1) := by decide +kernel
theorem dX0_takeAway_24 : decode cX0_takeAway 24 = .ok (.iadd, 1) := by decide +kernel
theorem dX0_takeAway_25 : decode cX0_takeAway 25 = .ok (.aload_n 0, 1) := by decide +kernel
theorem dX0_takeAway_26 : decode cX0_takeAway 26 = .ok (.getfield 48, 3) := by decide +kernel
theorem dX0_takeAway_29 : decode cX0_takeAway 29 = .ok (.arraylength, 1) := by decide +kernel
theorem dX0_takeAway_30 : decode cX0_takeAway 30 = .ok (.if_icmp .ge 23, 3) := by decide +kernel
theorem dX0_takeAway_33 : decode cX0_takeAway 33 = .ok (.aload_n 0, 1) := by decide +kernel
theorem dX0_takeAway_34 : decode cX0_takeAway 34 = .ok (.getfield 48, 3) := by decide +kernel
theorem dX0_takeAway_37 : decode cX0_takeAway 37 = .ok (.iload_n 3, 1) := by decide +kernel
theorem dX0_takeAway_38 : decode cX0_takeAway 38 = .ok (.aload_n 0, 1) := by decide +kernel
theorem dX0_takeAway_39 : decode cX0_takeAway 39 = .ok (.getfield 48, 3) := by decide +kernel
theorem dX0_takeAway_42 : decode cX0_takeAway 42 = .ok (.iload_n 3, 1) := by decide +kernel
theorem dX0_takeAway_43 : decode cX0_takeAway 43 = .ok (.iconst 1, 1) := by decide +kernel
theorem dX0_takeAway_44 : decode cX0_takeAway 44 = .ok (.iadd, 1) := by decide +kernel
theorem dX0_takeAway_45 : decode cX0_takeAway 45 = .ok (.aaload, 1) := by decide +kernel
theorem dX0_takeAway_46 : decode cX0_takeAway 46 = .ok (.aastore, 1) := by decide +kernel
theorem dX0_takeAway_47 : decode cX0_takeAway 47 = .ok (.iinc 3 1, 3) := by decide +kernel
theorem dX0_takeAway_50 : decode cX0_takeAway 50 = .ok (.goto (-42), 3) := by decide +kernel
theorem dX0_takeAway_53 : decode cX0_takeAway 53 = .ok (.aload_n 0, 1) := by decide +kernel
theorem dX0_takeAway_54 : decode cX0_takeAway 54 = .ok (.getfield 52, 3) := by decide +kernel
theorem dX0_takeAway_57 : decode cX0_takeAway 57 = .ok (.iconst 1, 1) := by decide +kernel
theorem dX0_takeAway_58 : decode cX0_takeAway 58 = .ok (.isub, 1) := by decide +kernel
theorem dX0_takeAway_59 : decode cX0_takeAway 59 = .ok (.istore_n 3, 1) := by decide +kernel
theorem dX0_takeAway_60 : decode cX0_takeAway 60 = .ok (.aload_n 2, 1) := by decide +kernel
theorem dX0_takeAway_61 : decode cX0_takeAway 61 = .ok (.ifnull 16, 3) := by decide +kernel
theorem dX0_takeAway_64 : decode cX0_takeAway 64 = .ok (.iload_n 3, 1) := by decide +kernel
theorem dX0_takeAway_65 : decode cX0_takeAway 65 = .ok (.ifCond .lt 12, 3) := by decide +kernel
theorem dX0_takeAway_68 : decode cX0_takeAway 68 = .ok (.iload_n 3, 1) := by decide +kernel
theorem dX0_takeAway_69 : decode cX0_takeAway 69 = .ok (.aload_n 0, 1) := by decide +kernel
theorem dX0_takeAway_70 : decode cX0_takeAway 70 = .ok (.getfield 48, 3) := by decide +kernel
theorem dX0_takeAway_73 : decode cX0_takeAway 73 = .ok (.arraylength, 1) := by decide +kernel
theorem dX0_takeAway_74 : decode cX0_takeAway 74 = .ok (.if_icmp .lt 4, 3) := by decide +kernel
theorem dX0_takeAway_77 : decode cX0_takeAway 77 = .ok (.return_, 1) := by decide +kernel
theorem dX0_takeAway_78 : decode cX0_takeAway 78 = .ok (.aload_n 0, 1) := by decide +kernel
theorem dX0_takeAway_79 : decode cX0_takeAway 79 = .ok (.getfield 48, 3) := by decide +kernel
theorem dX0_takeAway_82 : decode cX0_takeAway 82 = .ok (.iload_n 3, 1) := by decide +kernel
theorem dX0_takeAway_83 : decode cX0_takeAway 83 = .ok (.aload_n 2, 1) := by decide +kernel
theorem dX0_takeAway_84 : decode cX0_takeAway 84 = .ok (.aastore, 1) := by decide +kernel
theorem dX0_takeAway_85 : decode cX0_takeAway 85 = .ok (.aload_n 0, 1) := by decide +kernel
theorem dX0_takeAway_86 : decode cX0_takeAway 86 = .ok (.iload_n 3, 1) := by decide +kernel
theorem dX0_takeAway_87 : decode cX0_takeAway 87 = .ok (.putfield 52, 3) := by decide +kernel
theorem dX0_takeAway_90 : decode cX0_takeAway 90 = .ok (.iconst 0, 1) := by decide +kernel
theorem dX0_takeAway_91 : decode cX0_takeAway 91 = .ok (.istore 4, 2) := by decide +kernel
theorem dX0_takeAway_93 : decode cX0_takeAway 93 = .ok (.iload 4, 2) := by decide +kernel
theorem dX0_takeAway_95 : decode cX0_takeAway 95 = .ok (.aload_n 0, 1) := by decide +kernel
theorem dX0_takeAway_96 : decode cX0_takeAway 96 = .ok (.getfield 52, 3) := by decide +kernel
theorem dX0_takeAway_99 : decode cX0_takeAway 99 = .ok (.if_icmp .ge 42, 3) := by decide +kernel
theorem dX0_takeAway_102 : decode cX0_takeAway 102 = .ok (.aload_n 0, 1) := by decide +kernel
theorem dX0_takeAway_103 : decode cX0_takeAway 103 = .ok (.iload 4, 2) := by decide +kernel
theorem dX0_takeAway_105 : decode cX0_takeAway 105 = .ok (.invokevirtual 60, 3) := by decide +kernel
theorem dX0_takeAway_108 : decode cX0_takeAway 108 = .ok (.astore 5, 2) := by decide +kernel
theorem dX0_takeAway_110 : decode cX0_takeAway 110 = .ok (.aload 5, 2) := by decide +kernel
theorem dX0_takeAway_112 : decode cX0_takeAway 112 = .ok (.ifnull 23, 3) := by decide +kernel
theorem dX0_takeAway_115 : decode cX0_takeAway 115 = .ok (.aload 5, 2) := by decide +kernel
theorem dX0_takeAway_117 : decode cX0_takeAway 117 = .ok (.getfield 76, 3) := by decide +kernel
theorem dX0_takeAway_120 : decode cX0_takeAway 120 = .ok (.iload_n 1, 1) := by decide +kernel
theorem dX0_takeAway_121 : decode cX0_takeAway 121 = .ok (.if_icmp .le 14, 3) := by decide +kernel
theorem dX0_takeAway_124 : decode cX0_takeAway 124 = .ok (.aload 5, 2) := by decide +kernel
theorem dX0_takeAway_126 : decode cX0_takeAway 126 = .ok (.dup, 1) := by decide +kernel
theorem dX0_takeAway_127 : decode cX0_takeAway 127 = .ok (.getfield 76, 3) := by decide +kernel
theorem dX0_takeAway_130 : decode cX0_takeAway 130 = .ok (.iconst 1, 1) := by decide +kernel
theorem dX0_takeAway_131 : decode cX0_takeAway 131 = .ok (.isub, 1) := by decide +kernel
theorem dX0_takeAway_132 : decode cX0_takeAway 132 = .ok (.putfield 76, 3) := by decide +kernel
theorem dX0_takeAway_135 : decode cX0_takeAway 135 = .ok (.iinc 4 1, 3) := by decide +kernel
theorem dX0_takeAway_138 : decode cX0_takeAway 138 = .ok (.goto (-45), 3) := by decide +kernel
theorem dX0_takeAway_141 : decode cX0_takeAway 141 = .ok (.return_, 1) := by decide +kernel
theorem dX0_originalOf_0 : decode cX0_originalOf 0 = .ok (.iload_n 1, 1) := by decide +kernel
theorem dX0_originalOf_1 : decode cX0_originalOf 1 = .ok (.istore_n 2, 1) := by decide +kernel
theorem dX0_originalOf_2 : decode cX0_originalOf 2 = .ok (.iconst 0, 1) := by decide +kernel
theorem dX0_originalOf_3 : decode cX0_originalOf 3 = .ok (.istore_n 3, 1) := by decide +kernel
theorem dX0_originalOf_4 : decode cX0_originalOf 4 = .ok (.iload_n 3, 1) := by decide +kernel
theorem dX0_originalOf_5 : decode cX0_originalOf 5 = .ok (.bipush 6, 2) := by decide +kernel
theorem dX0_originalOf_7 : decode cX0_originalOf 7 = .ok (.if_icmp .ge 37, 3) := by decide +kernel
theorem dX0_originalOf_10 : decode cX0_originalOf 10 = .ok (.aload_n 0, 1) := by decide +kernel
theorem dX0_originalOf_11 : decode cX0_originalOf 11 = .ok (.iload_n 2, 1) := by decide +kernel
theorem dX0_originalOf_12 : decode cX0_originalOf 12 = .ok (.invokevirtual 60, 3) := by decide +kernel
theorem dX0_originalOf_15 : decode cX0_originalOf 15 = .ok (.astore 4, 2) := by decide +kernel
theorem dX0_originalOf_17 : decode cX0_originalOf 17 = .ok (.aload 4, 2) := by decide +kernel
theorem dX0_originalOf_19 : decode cX0_originalOf 19 = .ok (.ifnull 11, 3) := by decide +kernel
theorem dX0_originalOf_22 : decode cX0_originalOf 22 = .ok (.aload 4, 2) := by decide +kernel
theorem dX0_originalOf_24 : decode cX0_originalOf 24 = .ok (.invokevirtual 79, 3) := by decide +kernel
theorem dX0_originalOf_27 : decode cX0_originalOf 27 = .ok (.ifCond .ne 5, 3) := by decide +kernel
theorem dX0_originalOf_30 : decode cX0_originalOf 30 = .ok (.iload_n 2, 1) := by decide +kernel
theorem dX0_originalOf_31 : decode cX0_originalOf 31 = .ok (.ireturn, 1) := by decide +kernel
theorem dX0_originalOf_32 : decode cX0_originalOf 32 = .ok (.aload 4, 2) := by decide +kernel
theorem dX0_originalOf_34 : decode cX0_originalOf 34 = .ok (.getfield 76, 3) := by decide +kernel
theorem dX0_originalOf_37 : decode cX0_originalOf 37 = .ok (.istore_n 2, 1) := by decide +kernel
theorem dX0_originalOf_38 : decode cX0_originalOf 38 = .ok (.iinc 3 1, 3) := by decide +kernel
theorem dX0_originalOf_41 : decode cX0_originalOf 41 = .ok (.goto (-37), 3) := by decide +kernel
theorem dX0_originalOf_44 : decode cX0_originalOf 44 = .ok (.iload_n 2, 1) := by decide +kernel
theorem dX0_originalOf_45 : decode cX0_originalOf 45 = .ok (.ireturn, 1) := by decide +kernel
theorem dX0_stepsOf_0 : decode cX0_stepsOf 0 = .ok (.iload_n 1, 1) := by decide +kernel
theorem dX0_stepsOf_1 : decode cX0_stepsOf 1 = .ok (.istore_n 2, 1) := by decide +kernel
theorem dX0_stepsOf_2 : decode cX0_stepsOf 2 = .ok (.iconst 0, 1) := by decide +kernel
theorem dX0_stepsOf_3 : decode cX0_stepsOf 3 = .ok (.istore_n 3, 1) := by decide +kernel
theorem dX0_stepsOf_4 : decode cX0_stepsOf 4 = .ok (.iload_n 3, 1) := by decide +kernel
theorem dX0_stepsOf_5 : decode cX0_stepsOf 5 = .ok (.bipush 6, 2) := by decide +kernel
theorem dX0_stepsOf_7 : decode cX0_stepsOf 7 = .ok (.if_icmp .ge 37, 3) := by decide +kernel
theorem dX0_stepsOf_10 : decode cX0_stepsOf 10 = .ok (.aload_n 0, 1) := by decide +kernel
theorem dX0_stepsOf_11 : decode cX0_stepsOf 11 = .ok (.iload_n 2, 1) := by decide +kernel
theorem dX0_stepsOf_12 : decode cX0_stepsOf 12 = .ok (.invokevirtual 60, 3) := by decide +kernel
theorem dX0_stepsOf_15 : decode cX0_stepsOf 15 = .ok (.astore 4, 2) := by decide +kernel
theorem dX0_stepsOf_17 : decode cX0_stepsOf 17 = .ok (.aload 4, 2) := by decide +kernel
theorem dX0_stepsOf_19 : decode cX0_stepsOf 19 = .ok (.ifnull 11, 3) := by decide +kernel
theorem dX0_stepsOf_22 : decode cX0_stepsOf 22 = .ok (.aload 4, 2) := by decide +kernel
theorem dX0_stepsOf_24 : decode cX0_stepsOf 24 = .ok (.invokevirtual 79, 3) := by decide +kernel
theorem dX0_stepsOf_27 : decode cX0_stepsOf 27 = .ok (.ifCond .ne 5, 3) := by decide +kernel
theorem dX0_stepsOf_30 : decode cX0_stepsOf 30 = .ok (.iload_n 3, 1) := by decide +kernel
theorem dX0_stepsOf_31 : decode cX0_stepsOf 31 = .ok (.ireturn, 1) := by decide +kernel
theorem dX0_stepsOf_32 : decode cX0_stepsOf 32 = .ok (.aload 4, 2) := by decide +kernel
theorem dX0_stepsOf_34 : decode cX0_stepsOf 34 = .ok (.getfield 76, 3) := by decide +kernel
theorem dX0_stepsOf_37 : decode cX0_stepsOf 37 = .ok (.istore_n 2, 1) := by decide +kernel
theorem dX0_stepsOf_38 : decode cX0_stepsOf 38 = .ok (.iinc 3 1, 3) := by decide +kernel
theorem dX0_stepsOf_41 : decode cX0_stepsOf 41 = .ok (.goto (-37), 3) := by decide +kernel
theorem dX0_stepsOf_44 : decode cX0_stepsOf 44 = .ok (.bipush 6, 2) := by decide +kernel
theorem dX0_stepsOf_46 : decode cX0_stepsOf 46 = .ok (.ireturn, 1) := by decide +kernel
theorem dX0_isOnBoard_0 : decode cX0_isOnBoard 0 = .ok (.aload_n 1, 1) := by decide +kernel
theorem dX0_isOnBoard_1 : decode cX0_isOnBoard 1 = .ok (.iload_n 2, 1) := by decide +kernel
theorem dX0_isOnBoard_2 : decode cX0_isOnBoard 2 = .ok (.invokevirtual 83, 3) := by decide +kernel
theorem dX0_isOnBoard_5 : decode cX0_isOnBoard 5 = .ok (.lstore_n 3, 1) := by decide +kernel
theorem dX0_isOnBoard_6 : decode cX0_isOnBoard 6 = .ok (.aload_n 1, 1) := by decide +kernel
theorem dX0_isOnBoard_7 : decode cX0_isOnBoard 7 = .ok (.iload_n 2, 1) := by decide +kernel
theorem dX0_isOnBoard_8 : decode cX0_isOnBoard 8 = .ok (.invokevirtual 87, 3) := by decide +kernel
theorem dX0_isOnBoard_11 : decode cX0_isOnBoard 11 = .ok (.lstore 5, 2) := by decide +kernel
theorem dX0_isOnBoard_13 : decode cX0_isOnBoard 13 = .ok (.lload_n 3, 1) := by decide +kernel
theorem dX0_isOnBoard_14 : decode cX0_isOnBoard 14 = .ok (.lconst 0, 1) := by decide +kernel
theorem dX0_isOnBoard_15 : decode cX0_isOnBoard 15 = .ok (.lcmp, 1) := by decide +kernel
theorem dX0_isOnBoard_16 : decode cX0_isOnBoard 16 = .ok (.ifCond .lt 47, 3) := by decide +kernel
theorem dX0_isOnBoard_19 : decode cX0_isOnBoard 19 = .ok (.lload_n 3, 1) := by decide +kernel
theorem dX0_isOnBoard_20 : decode cX0_isOnBoard 20 = .ok (.aload_n 0, 1) := by decide +kernel
theorem dX0_isOnBoard_21 : decode cX0_isOnBoard 21 = .ok (.iconst 2, 1) := by decide +kernel
theorem dX0_isOnBoard_22 : decode cX0_isOnBoard 22 = .ok (.invokevirtual 56, 3) := by decide +kernel
theorem dX0_isOnBoard_25 : decode cX0_isOnBoard 25 = .ok (.i2l, 1) := by decide +kernel
theorem dX0_isOnBoard_26 : decode cX0_isOnBoard 26 = .ok (.aload_n 1, 1) := by decide +kernel
theorem dX0_isOnBoard_27 : decode cX0_isOnBoard 27 = .ok (.getfield 90, 3) := by decide +kernel
theorem dX0_isOnBoard_30 : decode cX0_isOnBoard 30 = .ok (.lmul, 1) := by decide +kernel
theorem dX0_isOnBoard_31 : decode cX0_isOnBoard 31 = .ok (.lcmp, 1) := by decide +kernel
theorem dX0_isOnBoard_32 : decode cX0_isOnBoard 32 = .ok (.ifCond .gt 31, 3) := by decide +kernel
theorem dX0_isOnBoard_35 : decode cX0_isOnBoard 35 = .ok (.lload 5, 2) := by decide +kernel
theorem dX0_isOnBoard_37 : decode cX0_isOnBoard 37 = .ok (.lconst 0, 1) := by decide +kernel
theorem dX0_isOnBoard_38 : decode cX0_isOnBoard 38 = .ok (.lcmp, 1) := by decide +kernel
theorem dX0_isOnBoard_39 : decode cX0_isOnBoard 39 = .ok (.ifCond .lt 24, 3) := by decide +kernel
theorem dX0_isOnBoard_42 : decode cX0_isOnBoard 42 = .ok (.lload 5, 2) := by decide +kernel
theorem dX0_isOnBoard_44 : decode cX0_isOnBoard 44 = .ok (.aload_n 0, 1) := by decide +kernel
theorem dX0_isOnBoard_45 : decode cX0_isOnBoard 45 = .ok (.iconst 3, 1) := by decide +kernel
theorem dX0_isOnBoard_46 : decode cX0_isOnBoard 46 = .ok (.invokevirtual 56, 3) := by decide +kernel
theorem dX0_isOnBoard_49 : decode cX0_isOnBoard 49 = .ok (.i2l, 1) := by decide +kernel
theorem dX0_isOnBoard_50 : decode cX0_isOnBoard 50 = .ok (.aload_n 1, 1) := by decide +kernel
theorem dX0_isOnBoard_51 : decode cX0_isOnBoard 51 = .ok (.getfield 90, 3) := by decide +kernel
theorem dX0_isOnBoard_54 : decode cX0_isOnBoard 54 = .ok (.lmul, 1) := by decide +kernel
theorem dX0_isOnBoard_55 : decode cX0_isOnBoard 55 = .ok (.lcmp, 1) := by decide +kernel
theorem dX0_isOnBoard_56 : decode cX0_isOnBoard 56 = .ok (.ifCond .gt 7, 3) := by decide +kernel
theorem dX0_isOnBoard_59 : decode cX0_isOnBoard 59 = .ok (.iconst 1, 1) := by decide +kernel
theorem dX0_isOnBoard_60 : decode cX0_isOnBoard 60 = .ok (.goto 4, 3) := by decide +kernel
theorem dX0_isOnBoard_63 : decode cX0_isOnBoard 63 = .ok (.iconst 0, 1) := by decide +kernel
theorem dX0_isOnBoard_64 : decode cX0_isOnBoard 64 = .ok (.ireturn, 1) := by decide +kernel
theorem dX0_pointsOffBoard_0 : decode cX0_pointsOffBoard 0 = .ok (.iconst 0, 1) := by decide +kernel
theorem dX0_pointsOffBoard_1 : decode cX0_pointsOffBoard 1 = .ok (.istore_n 2, 1) := by decide +kernel
theorem dX0_pointsOffBoard_2 : decode cX0_pointsOffBoard 2 = .ok (.iconst 0, 1) := by decide +kernel
theorem dX0_pointsOffBoard_3 : decode cX0_pointsOffBoard 3 = .ok (.istore_n 3, 1) := by decide +kernel
theorem dX0_pointsOffBoard_4 : decode cX0_pointsOffBoard 4 = .ok (.iload_n 3, 1) := by decide +kernel
theorem dX0_pointsOffBoard_5 : decode cX0_pointsOffBoard 5 = .ok (.aload_n 1, 1) := by decide +kernel
theorem dX0_pointsOffBoard_6 : decode cX0_pointsOffBoard 6 = .ok (.getfield 94, 3) := by decide +kernel
theorem dX0_pointsOffBoard_9 : decode cX0_pointsOffBoard 9 = .ok (.if_icmp .ge 21, 3) := by decide +kernel
theorem dX0_pointsOffBoard_12 : decode cX0_pointsOffBoard 12 = .ok (.aload_n 0, 1) := by decide +kernel
theorem dX0_pointsOffBoard_13 : decode cX0_pointsOffBoard 13 = .ok (.aload_n 1, 1) := by decide +kernel
theorem dX0_pointsOffBoard_14 : decode cX0_pointsOffBoard 14 = .ok (.iload_n 3, 1) := by decide +kernel
theorem dX0_pointsOffBoard_15 : decode cX0_pointsOffBoard 15 = .ok (.invokevirtual 95, 3) := by decide +kernel
theorem dX0_pointsOffBoard_18 : decode cX0_pointsOffBoard 18 = .ok (.ifCond .ne 6, 3) := by decide +kernel
theorem dX0_pointsOffBoard_21 : decode cX0_pointsOffBoard 21 = .ok (.iinc 2 1, 3) := by decide +kernel
theorem dX0_pointsOffBoard_24 : decode cX0_pointsOffBoard 24 = .ok (.iinc 3 1, 3) := by decide +kernel
theorem dX0_pointsOffBoard_27 : decode cX0_pointsOffBoard 27 = .ok (.goto (-23), 3) := by decide +kernel
theorem dX0_pointsOffBoard_30 : decode cX0_pointsOffBoard 30 = .ok (.iload_n 2, 1) := by decide +kernel
theorem dX0_pointsOffBoard_31 : decode cX0_pointsOffBoard 31 = .ok (.ireturn, 1) := by decide +kernel
theorem dX0_wornWidth_0 : decode cX0_wornWidth 0 = .ok (.iconst 1, 1) := by decide +kernel
theorem dX0_wornWidth_1 : decode cX0_wornWidth 1 = .ok (.aload_n 0, 1) := by decide +kernel
theorem dX0_wornWidth_2 : decode cX0_wornWidth 2 = .ok (.getfield 31, 3) := by decide +kernel
theorem dX0_wornWidth_5 : decode cX0_wornWidth 5 = .ok (.i2l, 1) := by decide +kernel
theorem dX0_wornWidth_6 : decode cX0_wornWidth 6 = .ok (.aload_n 0, 1) := by decide +kernel
theorem dX0_wornWidth_7 : decode cX0_wornWidth 7 = .ok (.iconst 4, 1) := by decide +kernel
theorem dX0_wornWidth_8 : decode cX0_wornWidth 8 = .ok (.invokevirtual 56, 3) := by decide +kernel
theorem dX0_wornWidth_11 : decode cX0_wornWidth 11 = .ok (.i2l, 1) := by decide +kernel
theorem dX0_wornWidth_12 : decode cX0_wornWidth 12 = .ok (.invokestatic 99, 3) := by decide +kernel
theorem dX0_wornWidth_15 : decode cX0_wornWidth 15 = .ok (.l2i, 1) := by decide +kernel
theorem dX0_wornWidth_16 : decode cX0_wornWidth 16 = .ok (.iadd, 1) := by decide +kernel
theorem dX0_wornWidth_17 : decode cX0_wornWidth 17 = .ok (.ireturn, 1) := by decide +kernel
theorem dX0_isBlunt_0 : decode cX0_isBlunt 0 = .ok (.aload_n 0, 1) := by decide +kernel
theorem dX0_isBlunt_1 : decode cX0_isBlunt 1 = .ok (.invokevirtual 103, 3) := by decide +kernel
theorem dX0_isBlunt_4 : decode cX0_isBlunt 4 = .ok (.bipush 9, 2) := by decide +kernel
theorem dX0_isBlunt_6 : decode cX0_isBlunt 6 = .ok (.if_icmp .le 7, 3) := by decide +kernel
theorem dX0_isBlunt_9 : decode cX0_isBlunt 9 = .ok (.iconst 1, 1) := by decide +kernel
theorem dX0_isBlunt_10 : decode cX0_isBlunt 10 = .ok (.goto 4, 3) := by decide +kernel
theorem dX0_isBlunt_13 : decode cX0_isBlunt 13 = .ok (.iconst 0, 1) := by decide +kernel
theorem dX0_isBlunt_14 : decode cX0_isBlunt 14 = .ok (.ireturn, 1) := by decide +kernel
theorem dX0_drawLine_0 : decode cX0_drawLine 0 = .ok (.aload_n 1, 1) := by decide +kernel
theorem dX0_drawLine_1 : decode cX0_drawLine 1 = .ok (.iload_n 2, 1) := by decide +kernel
theorem dX0_drawLine_2 : decode cX0_drawLine 2 = .ok (.invokevirtual 107, 3) := by decide +kernel
theorem dX0_drawLine_5 : decode cX0_drawLine 5 = .ok (.ifCond .ne 4, 3) := by decide +kernel
theorem dX0_drawLine_8 : decode cX0_drawLine 8 = .ok (.return_, 1) := by decide +kernel
theorem dX0_drawLine_9 : decode cX0_drawLine 9 = .ok (.aload_n 0, 1) := by decide +kernel
theorem dX0_drawLine_10 : decode cX0_drawLine 10 = .ok (.aload_n 1, 1) := by decide +kernel
theorem dX0_drawLine_11 : decode cX0_drawLine 11 = .ok (.iload_n 2, 1) := by decide +kernel
theorem dX0_drawLine_12 : decode cX0_drawLine 12 = .ok (.iconst 1, 1) := by decide +kernel
theorem dX0_drawLine_13 : decode cX0_drawLine 13 = .ok (.isub, 1) := by decide +kernel
theorem dX0_drawLine_14 : decode cX0_drawLine 14 = .ok (.invokevirtual 95, 3) := by decide +kernel
theorem dX0_drawLine_17 : decode cX0_drawLine 17 = .ok (.ifCond .eq 12, 3) := by decide +kernel
theorem dX0_drawLine_20 : decode cX0_drawLine 20 = .ok (.aload_n 0, 1) := by decide +kernel
theorem dX0_drawLine_21 : decode cX0_drawLine 21 = .ok (.aload_n 1, 1) := by decide +kernel
theorem dX0_drawLine_22 : decode cX0_drawLine 22 = .ok (.iload_n 2, 1) := by decide +kernel
theorem dX0_drawLine_23 : decode cX0_drawLine 23 = .ok (.invokevirtual 95, 3) := by decide +kernel
theorem dX0_drawLine_26 : decode cX0_drawLine 26 = .ok (.ifCond .ne 14, 3) := by decide +kernel
theorem dX0_drawLine_29 : decode cX0_drawLine 29 = .ok (.aload_n 0, 1) := by decide +kernel
theorem dX0_drawLine_30 : decode cX0_drawLine 30 = .ok (.dup, 1) := by decide +kernel
theorem dX0_drawLine_31 : decode cX0_drawLine 31 = .ok (.getfield 43, 3) := by decide +kernel
theorem dX0_drawLine_34 : decode cX0_drawLine 34 = .ok (.iconst 1, 1) := by decide +kernel
theorem dX0_drawLine_35 : decode cX0_drawLine 35 = .ok (.iadd, 1) := by decide +kernel
theorem dX0_drawLine_36 : decode cX0_drawLine 36 = .ok (.putfield 43, 3) := by decide +kernel
theorem dX0_drawLine_39 : decode cX0_drawLine 39 = .ok (.return_, 1) := by decide +kernel
theorem dX0_drawLine_40 : decode cX0_drawLine 40 = .ok (.aload_n 1, 1) := by decide +kernel
theorem dX0_drawLine_41 : decode cX0_drawLine 41 = .ok (.iload_n 2, 1) := by decide +kernel
theorem dX0_drawLine_42 : decode cX0_drawLine 42 = .ok (.invokevirtual 111, 3) := by decide +kernel
theorem dX0_drawLine_45 : decode cX0_drawLine 45 = .ok (.istore_n 3, 1) := by decide +kernel
theorem dX0_drawLine_46 : decode cX0_drawLine 46 = .ok (.aload_n 1, 1) := by decide +kernel
theorem dX0_drawLine_47 : decode cX0_drawLine 47 = .ok (.iload_n 2, 1) := by decide +kernel
theorem dX0_drawLine_48 : decode cX0_drawLine 48 = .ok (.aload_n 0, 1) := by decide +kernel
theorem dX0_drawLine_49 : decode cX0_drawLine 49 = .ok (.invokevirtual 103, 3) := by decide +kernel
theorem dX0_drawLine_52 : decode cX0_drawLine 52 = .ok (.bipush 9, 2) := by decide +kernel
theorem dX0_drawLine_54 : decode cX0_drawLine 54 = .ok (.invokestatic 114, 3) := by decide +kernel
theorem dX0_drawLine_57 : decode cX0_drawLine 57 = .ok (.invokevirtual 120, 3) := by decide +kernel
theorem dX0_drawLine_60 : decode cX0_drawLine 60 = .ok (.aload_n 0, 1) := by decide +kernel
theorem dX0_drawLine_61 : decode cX0_drawLine 61 = .ok (.dup, 1) := by decide +kernel
theorem dX0_drawLine_62 : decode cX0_drawLine 62 = .ok (.getfield 31, 3) := by decide +kernel
theorem dX0_drawLine_65 : decode cX0_drawLine 65 = .ok (.iload_n 3, 1) := by decide +kernel
theorem dX0_drawLine_66 : decode cX0_drawLine 66 = .ok (.iadd, 1) := by decide +kernel
theorem dX0_drawLine_67 : decode cX0_drawLine 67 = .ok (.putfield 31, 3) := by decide +kernel
theorem dX0_drawLine_70 : decode cX0_drawLine 70 = .ok (.aload_n 0, 1) := by decide +kernel
theorem dX0_drawLine_71 : decode cX0_drawLine 71 = .ok (.dup, 1) := by decide +kernel
theorem dX0_drawLine_72 : decode cX0_drawLine 72 = .ok (.getfield 37, 3) := by decide +kernel
theorem dX0_drawLine_75 : decode cX0_drawLine 75 = .ok (.iconst 1, 1) := by decide +kernel
theorem dX0_drawLine_76 : decode cX0_drawLine 76 = .ok (.iadd, 1) := by decide +kernel
theorem dX0_drawLine_77 : decode cX0_drawLine 77 = .ok (.putfield 37, 3) := by decide +kernel
theorem dX0_drawLine_80 : decode cX0_drawLine 80 = .ok (.aload_n 0, 1) := by decide +kernel
theorem dX0_drawLine_81 : decode cX0_drawLine 81 = .ok (.dup, 1) := by decide +kernel
theorem dX0_drawLine_82 : decode cX0_drawLine 82 = .ok (.getfield 40, 3) := by decide +kernel
theorem dX0_drawLine_85 : decode cX0_drawLine 85 = .ok (.iload_n 3, 1) := by decide +kernel
theorem dX0_drawLine_86 : decode cX0_drawLine 86 = .ok (.iadd, 1) := by decide +kernel
theorem dX0_drawLine_87 : decode cX0_drawLine 87 = .ok (.putfield 40, 3) := by decide +kernel
theorem dX0_drawLine_90 : decode cX0_drawLine 90 = .ok (.return_, 1) := by decide +kernel
theorem dX0_reasonAgainst_0 : decode cX0_reasonAgainst 0 = .ok (.aload_n 2, 1) := by decide +kernel
theorem dX0_reasonAgainst_1 : decode cX0_reasonAgainst 1 = .ok (.getfield 94, 3) := by decide +kernel
theorem dX0_reasonAgainst_4 : decode cX0_reasonAgainst 4 = .ok (.iconst 1, 1) := by decide +kernel
theorem dX0_reasonAgainst_5 : decode cX0_reasonAgainst 5 = .ok (.if_icmp .ge 5, 3) := by decide +kernel
theorem dX0_reasonAgainst_8 : decode cX0_reasonAgainst 8 = .ok (.iconst 1, 1) := by decide +kernel
theorem dX0_reasonAgainst_9 : decode cX0_reasonAgainst 9 = .ok (.ireturn, 1) := by decide +kernel
theorem dX0_reasonAgainst_10 : decode cX0_reasonAgainst 10 = .ok (.aload_n 0, 1) := by decide +kernel
theorem dX0_reasonAgainst_11 : decode cX0_reasonAgainst 11 = .ok (.invokevirtual 124, 3) := by decide +kernel
theorem dX0_reasonAgainst_14 : decode cX0_reasonAgainst 14 = .ok (.ifCond .eq 5, 3) := by decide +kernel
theorem dX0_reasonAgainst_17 : decode cX0_reasonAgainst 17 = .ok (.iconst 2, 1) := by decide +kernel
theorem dX0_reasonAgainst_18 : decode cX0_reasonAgainst 18 = .ok (.ireturn, 1) := by decide +kernel
theorem dX0_reasonAgainst_19 : decode cX0_reasonAgainst 19 = .ok (.aload_n 0, 1) := by decide +kernel
theorem dX0_reasonAgainst_20 : decode cX0_reasonAgainst 20 = .ok (.invokevirtual 68, 3) := by decide +kernel
theorem dX0_reasonAgainst_23 : decode cX0_reasonAgainst 23 = .ok (.astore_n 3, 1) := by decide +kernel
theorem dX0_reasonAgainst_24 : decode cX0_reasonAgainst 24 = .ok (.aload_n 3, 1) := by decide +kernel
theorem dX0_reasonAgainst_25 : decode cX0_reasonAgainst 25 = .ok (.ifnonnull 5, 3) := by decide +kernel
theorem dX0_reasonAgainst_28 : decode cX0_reasonAgainst 28 = .ok (.iconst 3, 1) := by decide +kernel
theorem dX0_reasonAgainst_29 : decode cX0_reasonAgainst 29 = .ok (.ireturn, 1) := by decide +kernel
theorem dX0_reasonAgainst_30 : decode cX0_reasonAgainst 30 = .ok (.aload_n 0, 1) := by decide +kernel
theorem dX0_reasonAgainst_31 : decode cX0_reasonAgainst 31 = .ok (.iload_n 1, 1) := by decide +kernel
theorem dX0_reasonAgainst_32 : decode cX0_reasonAgainst 32 = .ok (.aload_n 2, 1) := by decide +kernel
theorem dX0_reasonAgainst_33 : decode cX0_reasonAgainst 33 = .ok (.aload_n 3, 1) := by decide +kernel
theorem dX0_reasonAgainst_34 : decode cX0_reasonAgainst 34 = .ok (.invokevirtual 127, 3) := by decide +kernel
theorem dX0_reasonAgainst_37 : decode cX0_reasonAgainst 37 = .ok (.aload_n 3, 1) := by decide +kernel
theorem dX0_reasonAgainst_38 : decode cX0_reasonAgainst 38 = .ok (.invokevirtual 131, 3) := by decide +kernel
theorem dX0_reasonAgainst_41 : decode cX0_reasonAgainst 41 = .ok (.ifCond .eq 7, 3) := by decide +kernel
theorem dX0_reasonAgainst_44 : decode cX0_reasonAgainst 44 = .ok (.iconst 4, 1) := by decide +kernel
theorem dX0_reasonAgainst_45 : decode cX0_reasonAgainst 45 = .ok (.goto 4, 3) := by decide +kernel
theorem dX0_reasonAgainst_48 : decode cX0_reasonAgainst 48 = .ok (.iconst 0, 1) := by decide +kernel
theorem dX0_reasonAgainst_49 : decode cX0_reasonAgainst 49 = .ok (.ireturn, 1) := by decide +kernel
theorem dX0_trace_0 : decode cX0_trace 0 = .ok (.aload_n 3, 1) := by decide +kernel
theorem dX0_trace_1 : decode cX0_trace 1 = .ok (.iload_n 1, 1) := by decide +kernel
theorem dX0_trace_2 : decode cX0_trace 2 = .ok (.aload_n 2, 1) := by decide +kernel
theorem dX0_trace_3 : decode cX0_trace 3 = .ok (.getfield 134, 3) := by decide +kernel
theorem dX0_trace_6 : decode cX0_trace 6 = .ok (.aload_n 0, 1) := by decide +kernel
theorem dX0_trace_7 : decode cX0_trace 7 = .ok (.getfield 9, 3) := by decide +kernel
theorem dX0_trace_10 : decode cX0_trace 10 = .ok (.i2l, 1) := by decide +kernel
theorem dX0_trace_11 : decode cX0_trace 11 = .ok (.lmul, 1) := by decide +kernel
theorem dX0_trace_12 : decode cX0_trace 12 = .ok (.aload_n 2, 1) := by decide +kernel
theorem dX0_trace_13 : decode cX0_trace 13 = .ok (.getfield 90, 3) := by decide +kernel
theorem dX0_trace_16 : decode cX0_trace 16 = .ok (.aload_n 0, 1) := by decide +kernel
theorem dX0_trace_17 : decode cX0_trace 17 = .ok (.getfield 15, 3) := by decide +kernel
theorem dX0_trace_20 : decode cX0_trace 20 = .ok (.i2l, 1) := by decide +kernel
theorem dX0_trace_21 : decode cX0_trace 21 = .ok (.lmul, 1) := by decide +kernel
theorem dX0_trace_22 : decode cX0_trace 22 = .ok (.invokevirtual 72, 3) := by decide +kernel
theorem dX0_trace_25 : decode cX0_trace 25 = .ok (.aload_n 3, 1) := by decide +kernel
theorem dX0_trace_26 : decode cX0_trace 26 = .ok (.aload_n 2, 1) := by decide +kernel
theorem dX0_trace_27 : decode cX0_trace 27 = .ok (.getfield 137, 3) := by decide +kernel
theorem dX0_trace_30 : decode cX0_trace 30 = .ok (.aload_n 0, 1) := by decide +kernel
theorem dX0_trace_31 : decode cX0_trace 31 = .ok (.invokevirtual 140, 3) := by decide +kernel
theorem dX0_trace_34 : decode cX0_trace 34 = .ok (.imul, 1) := by decide +kernel
theorem dX0_trace_35 : decode cX0_trace 35 = .ok (.putfield 137, 3) := by decide +kernel
theorem dX0_trace_38 : decode cX0_trace 38 = .ok (.aload_n 3, 1) := by decide +kernel
theorem dX0_trace_39 : decode cX0_trace 39 = .ok (.aload_n 2, 1) := by decide +kernel
theorem dX0_trace_40 : decode cX0_trace 40 = .ok (.getfield 142, 3) := by decide +kernel
theorem dX0_trace_43 : decode cX0_trace 43 = .ok (.aload_n 0, 1) := by decide +kernel
theorem dX0_trace_44 : decode cX0_trace 44 = .ok (.invokevirtual 145, 3) := by decide +kernel
theorem dX0_trace_47 : decode cX0_trace 47 = .ok (.imul, 1) := by decide +kernel
theorem dX0_trace_48 : decode cX0_trace 48 = .ok (.putfield 142, 3) := by decide +kernel
theorem dX0_trace_51 : decode cX0_trace 51 = .ok (.aload_n 3, 1) := by decide +kernel
theorem dX0_trace_52 : decode cX0_trace 52 = .ok (.aload_n 0, 1) := by decide +kernel
theorem dX0_trace_53 : decode cX0_trace 53 = .ok (.aload_n 2, 1) := by decide +kernel
theorem dX0_trace_54 : decode cX0_trace 54 = .ok (.getfield 147, 3) := by decide +kernel
theorem dX0_trace_57 : decode cX0_trace 57 = .ok (.aload_n 2, 1) := by decide +kernel
theorem dX0_trace_58 : decode cX0_trace 58 = .ok (.getfield 90, 3) := by decide +kernel
theorem dX0_trace_61 : decode cX0_trace 61 = .ok (.aload_n 0, 1) := by decide +kernel
theorem dX0_trace_62 : decode cX0_trace 62 = .ok (.getfield 18, 3) := by decide +kernel
theorem dX0_trace_65 : decode cX0_trace 65 = .ok (.aload_n 0, 1) := by decide +kernel
theorem dX0_trace_66 : decode cX0_trace 66 = .ok (.invokevirtual 140, 3) := by decide +kernel
theorem dX0_trace_69 : decode cX0_trace 69 = .ok (.invokevirtual 150, 3) := by decide +kernel
theorem dX0_trace_72 : decode cX0_trace 72 = .ok (.putfield 147, 3) := by decide +kernel
theorem dX0_trace_75 : decode cX0_trace 75 = .ok (.aload_n 3, 1) := by decide +kernel
theorem dX0_trace_76 : decode cX0_trace 76 = .ok (.aload_n 0, 1) := by decide +kernel
theorem dX0_trace_77 : decode cX0_trace 77 = .ok (.aload_n 2, 1) := by decide +kernel
theorem dX0_trace_78 : decode cX0_trace 78 = .ok (.getfield 154, 3) := by decide +kernel
theorem dX0_trace_81 : decode cX0_trace 81 = .ok (.aload_n 2, 1) := by decide +kernel
theorem dX0_trace_82 : decode cX0_trace 82 = .ok (.getfield 90, 3) := by decide +kernel
theorem dX0_trace_85 : decode cX0_trace 85 = .ok (.aload_n 0, 1) := by decide +kernel
theorem dX0_trace_86 : decode cX0_trace 86 = .ok (.getfield 21, 3) := by decide +kernel
theorem dX0_trace_89 : decode cX0_trace 89 = .ok (.aload_n 0, 1) := by decide +kernel
theorem dX0_trace_90 : decode cX0_trace 90 = .ok (.invokevirtual 145, 3) := by decide +kernel
theorem dX0_trace_93 : decode cX0_trace 93 = .ok (.invokevirtual 150, 3) := by decide +kernel
theorem dX0_trace_96 : decode cX0_trace 96 = .ok (.putfield 154, 3) := by decide +kernel
theorem dX0_trace_99 : decode cX0_trace 99 = .ok (.aload_n 0, 1) := by decide +kernel
theorem dX0_trace_100 : decode cX0_trace 100 = .ok (.iconst 1, 1) := by decide +kernel
theorem dX0_trace_101 : decode cX0_trace 101 = .ok (.invokevirtual 56, 3) := by decide +kernel
theorem dX0_trace_104 : decode cX0_trace 104 = .ok (.i2l, 1) := by decide +kernel
theorem dX0_trace_105 : decode cX0_trace 105 = .ok (.aload_n 3, 1) := by decide +kernel
theorem dX0_trace_106 : decode cX0_trace 106 = .ok (.getfield 90, 3) := by decide +kernel
theorem dX0_trace_109 : decode cX0_trace 109 = .ok (.lmul, 1) := by decide +kernel
theorem dX0_trace_110 : decode cX0_trace 110 = .ok (.lstore 4, 2) := by decide +kernel
theorem dX0_trace_112 : decode cX0_trace 112 = .ok (.iconst 0, 1) := by decide +kernel
theorem dX0_trace_113 : decode cX0_trace 113 = .ok (.istore 6, 2) := by decide +kernel
theorem dX0_trace_115 : decode cX0_trace 115 = .ok (.iload 6, 2) := by decide +kernel
theorem dX0_trace_117 : decode cX0_trace 117 = .ok (.aload_n 2, 1) := by decide +kernel
theorem dX0_trace_118 : decode cX0_trace 118 = .ok (.getfield 94, 3) := by decide +kernel
theorem dX0_trace_121 : decode cX0_trace 121 = .ok (.if_icmp .ge 122, 3) := by decide +kernel
theorem dX0_trace_124 : decode cX0_trace 124 = .ok (.aload_n 0, 1) := by decide +kernel
theorem dX0_trace_125 : decode cX0_trace 125 = .ok (.aload_n 2, 1) := by decide +kernel
theorem dX0_trace_126 : decode cX0_trace 126 = .ok (.iload 6, 2) := by decide +kernel
theorem dX0_trace_128 : decode cX0_trace 128 = .ok (.invokevirtual 83, 3) := by decide +kernel
theorem dX0_trace_131 : decode cX0_trace 131 = .ok (.aload_n 2, 1) := by decide +kernel
theorem dX0_trace_132 : decode cX0_trace 132 = .ok (.getfield 90, 3) := by decide +kernel
theorem dX0_trace_135 : decode cX0_trace 135 = .ok (.aload_n 0, 1) := by decide +kernel
theorem dX0_trace_136 : decode cX0_trace 136 = .ok (.getfield 18, 3) := by decide +kernel
theorem dX0_trace_139 : decode cX0_trace 139 = .ok (.aload_n 0, 1) := by decide +kernel
theorem dX0_trace_140 : decode cX0_trace 140 = .ok (.invokevirtual 140, 3) := by decide +kernel
theorem dX0_trace_143 : decode cX0_trace 143 = .ok (.invokevirtual 150, 3) := by decide +kernel
theorem dX0_trace_146 : decode cX0_trace 146 = .ok (.lstore 7, 2) := by decide +kernel
theorem dX0_trace_148 : decode cX0_trace 148 = .ok (.aload_n 0, 1) := by decide +kernel
theorem dX0_trace_149 : decode cX0_trace 149 = .ok (.aload_n 2, 1) := by decide +kernel
theorem dX0_trace_150 : decode cX0_trace 150 = .ok (.iload 6, 2) := by decide +kernel
theorem dX0_trace_152 : decode cX0_trace 152 = .ok (.invokevirtual 87, 3) := by decide +kernel
theorem dX0_trace_155 : decode cX0_trace 155 = .ok (.aload_n 2, 1) := by decide +kernel
theorem dX0_trace_156 : decode cX0_trace 156 = .ok (.getfield 90, 3) := by decide +kernel
theorem dX0_trace_159 : decode cX0_trace 159 = .ok (.aload_n 0, 1) := by decide +kernel
theorem dX0_trace_160 : decode cX0_trace 160 = .ok (.getfield 21, 3) := by decide +kernel
theorem dX0_trace_163 : decode cX0_trace 163 = .ok (.aload_n 0, 1) := by decide +kernel
theorem dX0_trace_164 : decode cX0_trace 164 = .ok (.invokevirtual 145, 3) := by decide +kernel
theorem dX0_trace_167 : decode cX0_trace 167 = .ok (.invokevirtual 150, 3) := by decide +kernel
theorem dX0_trace_170 : decode cX0_trace 170 = .ok (.lstore 9, 2) := by decide +kernel
theorem dX0_trace_172 : decode cX0_trace 172 = .ok (.aload_n 2, 1) := by decide +kernel
theorem dX0_trace_173 : decode cX0_trace 173 = .ok (.iload 6, 2) := by decide +kernel
theorem dX0_trace_175 : decode cX0_trace 175 = .ok (.invokevirtual 107, 3) := by decide +kernel
theorem dX0_trace_178 : decode cX0_trace 178 = .ok (.ifCond .eq 37, 3) := by decide +kernel
theorem dX0_trace_181 : decode cX0_trace 181 = .ok (.aload_n 3, 1) := by decide +kernel
theorem dX0_trace_182 : decode cX0_trace 182 = .ok (.iload 6, 2) := by decide +kernel
theorem dX0_trace_184 : decode cX0_trace 184 = .ok (.iconst 1, 1) := by decide +kernel
theorem dX0_trace_185 : decode cX0_trace 185 = .ok (.isub, 1) := by decide +kernel
theorem dX0_trace_186 : decode cX0_trace 186 = .ok (.invokevirtual 83, 3) := by decide +kernel
theorem dX0_trace_189 : decode cX0_trace 189 = .ok (.lload 7, 2) := by decide +kernel
theorem dX0_trace_191 : decode cX0_trace 191 = .ok (.lload 4, 2) := by decide +kernel
theorem dX0_trace_193 : decode cX0_trace 193 = .ok (.invokestatic 157, 3) := by decide +kernel
theorem dX0_trace_196 : decode cX0_trace 196 = .ok (.lstore 7, 2) := by decide +kernel
theorem dX0_trace_198 : decode cX0_trace 198 = .ok (.aload_n 3, 1) := by decide +kernel
theorem dX0_trace_199 : decode cX0_trace 199 = .ok (.iload 6, 2) := by decide +kernel
theorem dX0_trace_201 : decode cX0_trace 201 = .ok (.iconst 1, 1) := by decide +kernel
theorem dX0_trace_202 : decode cX0_trace 202 = .ok (.isub, 1) := by decide +kernel
theorem dX0_trace_203 : decode cX0_trace 203 = .ok (.invokevirtual 87, 3) := by decide +kernel
theorem dX0_trace_206 : decode cX0_trace 206 = .ok (.lload 9, 2) := by decide +kernel
theorem dX0_trace_208 : decode cX0_trace 208 = .ok (.lload 4, 2) := by decide +kernel
theorem dX0_trace_210 : decode cX0_trace 210 = .ok (.invokestatic 157, 3) := by decide +kernel
theorem dX0_trace_213 : decode cX0_trace 213 = .ok (.lstore 9, 2) := by decide +kernel
theorem dX0_trace_215 : decode cX0_trace 215 = .ok (.aload_n 3, 1) := by decide +kernel
theorem dX0_trace_216 : decode cX0_trace 216 = .ok (.lload 7, 2) := by decide +kernel
theorem dX0_trace_218 : decode cX0_trace 218 = .ok (.lload 9, 2) := by decide +kernel
theorem dX0_trace_220 : decode cX0_trace 220 = .ok (.aload_n 2, 1) := by decide +kernel
theorem dX0_trace_221 : decode cX0_trace 221 = .ok (.iload 6, 2) := by decide +kernel
theorem dX0_trace_223 : decode cX0_trace 223 = .ok (.invokevirtual 107, 3) := by decide +kernel
theorem dX0_trace_226 : decode cX0_trace 226 = .ok (.ifCond .eq 7, 3) := by decide +kernel
theorem dX0_trace_229 : decode cX0_trace 229 = .ok (.iconst 0, 1) := by decide +kernel
theorem dX0_trace_230 : decode cX0_trace 230 = .ok (.goto 4, 3) := by decide +kernel
theorem dX0_trace_233 : decode cX0_trace 233 = .ok (.iconst (-1), 1) := by decide +kernel
theorem dX0_trace_234 : decode cX0_trace 234 = .ok (.invokevirtual 161, 3) := by decide +kernel
theorem dX0_trace_237 : decode cX0_trace 237 = .ok (.iinc 6 1, 3) := by decide +kernel
theorem dX0_trace_240 : decode cX0_trace 240 = .ok (.goto (-125), 3) := by decide +kernel
theorem dX0_trace_243 : decode cX0_trace 243 = .ok (.return_, 1) := by decide +kernel
theorem dX0_aim_0 : decode cX0_aim 0 = .ok (.iload 5, 2) := by decide +kernel
theorem dX0_aim_2 : decode cX0_aim 2 = .ok (.i2l, 1) := by decide +kernel
theorem dX0_aim_3 : decode cX0_aim 3 = .ok (.lload_n 3, 1) := by decide +kernel
theorem dX0_aim_4 : decode cX0_aim 4 = .ok (.lmul, 1) := by decide +kernel
theorem dX0_aim_5 : decode cX0_aim 5 = .ok (.aload_n 0, 1) := by decide +kernel
theorem dX0_aim_6 : decode cX0_aim 6 = .ok (.getfield 15, 3) := by decide +kernel
theorem dX0_aim_9 : decode cX0_aim 9 = .ok (.i2l, 1) := by decide +kernel
theorem dX0_aim_10 : decode cX0_aim 10 = .ok (.lmul, 1) := by decide +kernel
theorem dX0_aim_11 : decode cX0_aim 11 = .ok (.iload 6, 2) := by decide +kernel
theorem dX0_aim_13 : decode cX0_aim 13 = .ok (.aload_n 0, 1) := by decide +kernel
theorem dX0_aim_14 : decode cX0_aim 14 = .ok (.getfield 9, 3) := by decide +kernel
theorem dX0_aim_17 : decode cX0_aim 17 = .ok (.imul, 1) := by decide +kernel
theorem dX0_aim_18 : decode cX0_aim 18 = .ok (.i2l, 1) := by decide +kernel
theorem dX0_aim_19 : decode cX0_aim 19 = .ok (.lload_n 1, 1) := by decide +kernel
theorem dX0_aim_20 : decode cX0_aim 20 = .ok (.iload 5, 2) := by decide +kernel
theorem dX0_aim_22 : decode cX0_aim 22 = .ok (.i2l, 1) := by decide +kernel
theorem dX0_aim_23 : decode cX0_aim 23 = .ok (.lload_n 3, 1) := by decide +kernel
theorem dX0_aim_24 : decode cX0_aim 24 = .ok (.lmul, 1) := by decide +kernel
theorem dX0_aim_25 : decode cX0_aim 25 = .ok (.lsub, 1) := by decide +kernel
theorem dX0_aim_26 : decode cX0_aim 26 = .ok (.lmul, 1) := by decide +kernel
theorem dX0_aim_27 : decode cX0_aim 27 = .ok (.ladd, 1) := by decide +kernel
theorem dX0_aim_28 : decode cX0_aim 28 = .ok (.lreturn, 1) := by decide +kernel
theorem dX0_follow_0 : decode cX0_follow 0 = .ok (.lload_n 2, 1) := by decide +kernel
theorem dX0_follow_1 : decode cX0_follow 1 = .ok (.lload_n 0, 1) := by decide +kernel
theorem dX0_follow_2 : decode cX0_follow 2 = .ok (.lload 4, 2) := by decide +kernel
theorem dX0_follow_4 : decode cX0_follow 4 = .ok (.ladd, 1) := by decide +kernel
theorem dX0_follow_5 : decode cX0_follow 5 = .ok (.lcmp, 1) := by decide +kernel
theorem dX0_follow_6 : decode cX0_follow 6 = .ok (.ifCond .le 8, 3) := by decide +kernel
theorem dX0_follow_9 : decode cX0_follow 9 = .ok (.lload_n 2, 1) := by decide +kernel
theorem dX0_follow_10 : decode cX0_follow 10 = .ok (.lload 4, 2) := by decide +kernel
theorem dX0_follow_12 : decode cX0_follow 12 = .ok (.lsub, 1) := by decide +kernel
theorem dX0_follow_13 : decode cX0_follow 13 = .ok (.lreturn, 1) := by decide +kernel
theorem dX0_follow_14 : decode cX0_follow 14 = .ok (.lload_n 2, 1) := by decide +kernel
theorem dX0_follow_15 : decode cX0_follow 15 = .ok (.lload_n 0, 1) := by decide +kernel
theorem dX0_follow_16 : decode cX0_follow 16 = .ok (.lload 4, 2) := by decide +kernel
theorem dX0_follow_18 : decode cX0_follow 18 = .ok (.lsub, 1) := by decide +kernel
theorem dX0_follow_19 : decode cX0_follow 19 = .ok (.lcmp, 1) := by decide +kernel
theorem dX0_follow_20 : decode cX0_follow 20 = .ok (.ifCond .ge 8, 3) := by decide +kernel
theorem dX0_follow_23 : decode cX0_follow 23 = .ok (.lload_n 2, 1) := by decide +kernel
theorem dX0_follow_24 : decode cX0_follow 24 = .ok (.lload 4, 2) := by decide +kernel
theorem dX0_follow_26 : decode cX0_follow 26 = .ok (.ladd, 1) := by decide +kernel
theorem dX0_follow_27 : decode cX0_follow 27 = .ok (.lreturn, 1) := by decide +kernel
theorem dX0_follow_28 : decode cX0_follow 28 = .ok (.lload_n 0, 1) := by decide +kernel
theorem dX0_follow_29 : decode cX0_follow 29 = .ok (.lreturn, 1) := by decide +kernel
theorem dX0_keepTraced_0 : decode cX0_keepTraced 0 = .ok (.aload_n 0, 1) := by decide +kernel
theorem dX0_keepTraced_1 : decode cX0_keepTraced 1 = .ok (.invokevirtual 68, 3) := by decide +kernel
theorem dX0_keepTraced_4 : decode cX0_keepTraced 4 = .ok (.astore_n 1, 1) := by decide +kernel
theorem dX0_keepTraced_5 : decode cX0_keepTraced 5 = .ok (.aload_n 1, 1) := by decide +kernel
theorem dX0_keepTraced_6 : decode cX0_keepTraced 6 = .ok (.ifnonnull 5, 3) := by decide +kernel
theorem dX0_keepTraced_9 : decode cX0_keepTraced 9 = .ok (.iconst (-1), 1) := by decide +kernel
theorem dX0_keepTraced_10 : decode cX0_keepTraced 10 = .ok (.ireturn, 1) := by decide +kernel
theorem dX0_keepTraced_11 : decode cX0_keepTraced 11 = .ok (.iconst 0, 1) := by decide +kernel
theorem dX0_keepTraced_12 : decode cX0_keepTraced 12 = .ok (.istore_n 2, 1) := by decide +kernel
theorem dX0_keepTraced_13 : decode cX0_keepTraced 13 = .ok (.iload_n 2, 1) := by decide +kernel
theorem dX0_keepTraced_14 : decode cX0_keepTraced 14 = .ok (.aload_n 1, 1) := by decide +kernel
theorem dX0_keepTraced_15 : decode cX0_keepTraced 15 = .ok (.getfield 94, 3) := by decide +kernel
theorem dX0_keepTraced_18 : decode cX0_keepTraced 18 = .ok (.if_icmp .ge 15, 3) := by decide +kernel
theorem dX0_keepTraced_21 : decode cX0_keepTraced 21 = .ok (.aload_n 0, 1) := by decide +kernel
theorem dX0_keepTraced_22 : decode cX0_keepTraced 22 = .ok (.aload_n 1, 1) := by decide +kernel
theorem dX0_keepTraced_23 : decode cX0_keepTraced 23 = .ok (.iload_n 2, 1) := by decide +kernel
theorem dX0_keepTraced_24 : decode cX0_keepTraced 24 = .ok (.invokevirtual 165, 3) := by decide +kernel
theorem dX0_keepTraced_27 : decode cX0_keepTraced 27 = .ok (.iinc 2 1, 3) := by decide +kernel
theorem dX0_keepTraced_30 : decode cX0_keepTraced 30 = .ok (.goto (-17), 3) := by decide +kernel
theorem dX0_keepTraced_33 : decode cX0_keepTraced 33 = .ok (.aload_n 0, 1) := by decide +kernel
theorem dX0_keepTraced_34 : decode cX0_keepTraced 34 = .ok (.dup, 1) := by decide +kernel
theorem dX0_keepTraced_35 : decode cX0_keepTraced 35 = .ok (.getfield 52, 3) := by decide +kernel
theorem dX0_keepTraced_38 : decode cX0_keepTraced 38 = .ok (.iconst 1, 1) := by decide +kernel
theorem dX0_keepTraced_39 : decode cX0_keepTraced 39 = .ok (.iadd, 1) := by decide +kernel
theorem dX0_keepTraced_40 : decode cX0_keepTraced 40 = .ok (.putfield 52, 3) := by decide +kernel
theorem dX0_keepTraced_43 : decode cX0_keepTraced 43 = .ok (.aload_n 0, 1) := by decide +kernel
theorem dX0_keepTraced_44 : decode cX0_keepTraced 44 = .ok (.getfield 52, 3) := by decide +kernel
theorem dX0_keepTraced_47 : decode cX0_keepTraced 47 = .ok (.iconst 1, 1) := by decide +kernel
theorem dX0_keepTraced_48 : decode cX0_keepTraced 48 = .ok (.isub, 1) := by decide +kernel
theorem dX0_keepTraced_49 : decode cX0_keepTraced 49 = .ok (.ireturn, 1) := by decide +kernel
end
section
theorem dX1_init_0 : decode cX1_init 0 = .ok (.aload_n 0, 1) := by decide +kernel
theorem dX1_init_1 : decode cX1_init 1 = .ok (.invokespecial 3, 3) := by decide +kernel
theorem dX1_init_4 : decode cX1_init 4 = .ok (.aload_n 0, 1) := by decide +kernel
theorem dX1_init_5 : decode cX1_init 5 = .ok (.iconst (-1), 1) := by decide +kernel
theorem dX1_init_6 : decode cX1_init 6 = .ok (.putfield 9, 3) := by decide +kernel
theorem dX1_init_9 : decode cX1_init 9 = .ok (.aload_n 0, 1) := by decide +kernel
theorem dX1_init_10 : decode cX1_init 10 = .ok (.lconst 1, 1) := by decide +kernel
theorem dX1_init_11 : decode cX1_init 11 = .ok (.putfield 15, 3) := by decide +kernel
theorem dX1_init_14 : decode cX1_init 14 = .ok (.aload_n 0, 1) := by decide +kernel
theorem dX1_init_15 : decode cX1_init 15 = .ok (.lconst 1, 1) := by decide +kernel
theorem dX1_init_16 : decode cX1_init 16 = .ok (.putfield 19, 3) := by decide +kernel
theorem dX1_init_19 : decode cX1_init 19 = .ok (.aload_n 0, 1) := by decide +kernel
theorem dX1_init_20 : decode cX1_init 20 = .ok (.iconst 1, 1) := by decide +kernel
theorem dX1_init_21 : decode cX1_init 21 = .ok (.putfield 22, 3) := by decide +kernel
theorem dX1_init_24 : decode cX1_init 24 = .ok (.aload_n 0, 1) := by decide +kernel
theorem dX1_init_25 : decode cX1_init 25 = .ok (.iconst 1, 1) := by decide +kernel
theorem dX1_init_26 : decode cX1_init 26 = .ok (.putfield 25, 3) := by decide +kernel
theorem dX1_init_29 : decode cX1_init 29 = .ok (.aload_n 0, 1) := by decide +kernel
theorem dX1_init_30 : decode cX1_init 30 = .ok (.lconst 0, 1) := by decide +kernel
theorem dX1_init_31 : decode cX1_init 31 = .ok (.putfield 28, 3) := by decide +kernel
theorem dX1_init_34 : decode cX1_init 34 = .ok (.aload_n 0, 1) := by decide +kernel
theorem dX1_init_35 : decode cX1_init 35 = .ok (.lconst 0, 1) := by decide +kernel
theorem dX1_init_36 : decode cX1_init 36 = .ok (.putfield 31, 3) := by decide +kernel
theorem dX1_init_39 : decode cX1_init 39 = .ok (.aload_n 0, 1) := by decide +kernel
theorem dX1_init_40 : decode cX1_init 40 = .ok (.iconst 0, 1) := by decide +kernel
theorem dX1_init_41 : decode cX1_init 41 = .ok (.putfield 34, 3) := by decide +kernel
theorem dX1_init_44 : decode cX1_init 44 = .ok (.aload_n 0, 1) := by decide +kernel
theorem dX1_init_45 : decode cX1_init 45 = .ok (.bipush 20, 2) := by decide +kernel
theorem dX1_init_47 : decode cX1_init 47 = .ok (.newarray .long, 2) := by decide +kernel
theorem dX1_init_49 : decode cX1_init 49 = .ok (.putfield 37, 3) := by decide +kernel
theorem dX1_init_52 : decode cX1_init 52 = .ok (.aload_n 0, 1) := by decide +kernel
theorem dX1_init_53 : decode cX1_init 53 = .ok (.bipush 20, 2) := by decide +kernel
theorem dX1_init_55 : decode cX1_init 55 = .ok (.newarray .long, 2) := by decide +kernel
theorem dX1_init_57 : decode cX1_init 57 = .ok (.putfield 41, 3) := by decide +kernel
theorem dX1_init_60 : decode cX1_init 60 = .ok (.aload_n 0, 1) := by decide +kernel
theorem dX1_init_61 : decode cX1_init 61 = .ok (.bipush 20, 2) := by decide +kernel
theorem dX1_init_63 : decode cX1_init 63 = .ok (.newarray .int, 2) := by decide +kernel
theorem dX1_init_65 : decode cX1_init 65 = .ok (.putfield 44, 3) := by decide +kernel
theorem dX1_init_68 : decode cX1_init 68 = .ok (.return_, 1) := by decide +kernel
theorem dX1_begin_0 : decode cX1_begin 0 = .ok (.aload_n 0, 1) := by decide +kernel
theorem dX1_begin_1 : decode cX1_begin 1 = .ok (.iload_n 1, 1) := by decide +kernel
theorem dX1_begin_2 : decode cX1_begin 2 = .ok (.putfield 9, 3) := by decide +kernel
theorem dX1_begin_5 : decode cX1_begin 5 = .ok (.aload_n 0, 1) := by decide +kernel
theorem dX1_begin_6 : decode cX1_begin 6 = .ok (.lload_n 2, 1) := by decide +kernel
theorem dX1_begin_7 : decode cX1_begin 7 = .ok (.putfield 15, 3) := by decide +kernel
theorem dX1_begin_10 : decode cX1_begin 10 = .ok (.aload_n 0, 1) := by decide +kernel
theorem dX1_begin_11 : decode cX1_begin 11 = .ok (.lload 4, 2) := by decide +kernel
theorem dX1_begin_13 : decode cX1_begin 13 = .ok (.putfield 19, 3) := by decide +kernel
theorem dX1_begin_16 : decode cX1_begin 16 = .ok (.aload_n 0, 1) := by decide +kernel
theorem dX1_begin_17 : decode cX1_begin 17 = .ok (.iconst 1, 1) := by decide +kernel
theorem dX1_begin_18 : decode cX1_begin 18 = .ok (.putfield 22, 3) := by decide +kernel
theorem dX1_begin_21 : decode cX1_begin 21 = .ok (.aload_n 0, 1) := by decide +kernel
theorem dX1_begin_22 : decode cX1_begin 22 = .ok (.iconst 1, 1) := by decide +kernel
theorem dX1_begin_23 : decode cX1_begin 23 = .ok (.putfield 25, 3) := by decide +kernel
theorem dX1_begin_26 : decode cX1_begin 26 = .ok (.aload_n 0, 1) := by decide +kernel
theorem dX1_begin_27 : decode cX1_begin 27 = .ok (.lconst 0, 1) := by decide +kernel
theorem dX1_begin_28 : decode cX1_begin 28 = .ok (.putfield 28, 3) := by decide +kernel
theorem dX1_begin_31 : decode cX1_begin 31 = .ok (.aload_n 0, 1) := by decide +kernel
theorem dX1_begin_32 : decode cX1_begin 32 = .ok (.lconst 0, 1) := by decide +kernel
theorem dX1_begin_33 : decode cX1_begin 33 = .ok (.putfield 31, 3) := by decide +kernel
theorem dX1_begin_36 : decode cX1_begin 36 = .ok (.aload_n 0, 1) := by decide +kernel
theorem dX1_begin_37 : decode cX1_begin 37 = .ok (.iconst 0, 1) := by decide +kernel
theorem dX1_begin_38 : decode cX1_begin 38 = .ok (.putfield 34, 3) := by decide +kernel
theorem dX1_begin_41 : decode cX1_begin 41 = .ok (.return_, 1) := by decide +kernel
theorem dX1_takeFrom_0 : decode cX1_takeFrom 0 = .ok (.aload_n 0, 1) := by decide +kernel
theorem dX1_takeFrom_1 : decode cX1_takeFrom 1 = .ok (.aload_n 1, 1) := by decide +kernel
theorem dX1_takeFrom_2 : decode cX1_takeFrom 2 = .ok (.getfield 9, 3) := by decide +kernel
theorem dX1_takeFrom_5 : decode cX1_takeFrom 5 = .ok (.aload_n 1, 1) := by decide +kernel
theorem dX1_takeFrom_6 : decode cX1_takeFrom 6 = .ok (.getfield 15, 3) := by decide +kernel
theorem dX1_takeFrom_9 : decode cX1_takeFrom 9 = .ok (.aload_n 1, 1) := by decide +kernel
theorem dX1_takeFrom_10 : decode cX1_takeFrom 10 = .ok (.getfield 19, 3) := by decide +kernel
theorem dX1_takeFrom_13 : decode cX1_takeFrom 13 = .ok (.invokevirtual 48, 3) := by decide +kernel
theorem dX1_takeFrom_16 : decode cX1_takeFrom 16 = .ok (.aload_n 0, 1) := by decide +kernel
theorem dX1_takeFrom_17 : decode cX1_takeFrom 17 = .ok (.aload_n 1, 1) := by decide +kernel
theorem dX1_takeFrom_18 : decode cX1_takeFrom 18 = .ok (.getfield 22, 3) := by decide +kernel
theorem dX1_takeFrom_21 : decode cX1_takeFrom 21 = .ok (.putfield 22, 3) := by decide +kernel
theorem dX1_takeFrom_24 : decode cX1_takeFrom 24 = .ok (.aload_n 0, 1) := by decide +kernel
theorem dX1_takeFrom_25 : decode cX1_takeFrom 25 = .ok (.aload_n 1, 1) := by decide +kernel
theorem dX1_takeFrom_26 : decode cX1_takeFrom 26 = .ok (.getfield 25, 3) := by decide +kernel
theorem dX1_takeFrom_29 : decode cX1_takeFrom 29 = .ok (.putfield 25, 3) := by decide +kernel
theorem dX1_takeFrom_32 : decode cX1_takeFrom 32 = .ok (.aload_n 0, 1) := by decide +kernel
theorem dX1_takeFrom_33 : decode cX1_takeFrom 33 = .ok (.aload_n 1, 1) := by decide +kernel
theorem dX1_takeFrom_34 : decode cX1_takeFrom 34 = .ok (.getfield 28, 3) := by decide +kernel
theorem dX1_takeFrom_37 : decode cX1_takeFrom 37 = .ok (.putfield 28, 3) := by decide +kernel
theorem dX1_takeFrom_40 : decode cX1_takeFrom 40 = .ok (.aload_n 0, 1) := by decide +kernel
theorem dX1_takeFrom_41 : decode cX1_takeFrom 41 = .ok (.aload_n 1, 1) := by decide +kernel
theorem dX1_takeFrom_42 : decode cX1_takeFrom 42 = .ok (.getfield 31, 3) := by decide +kernel
theorem dX1_takeFrom_45 : decode cX1_takeFrom 45 = .ok (.putfield 31, 3) := by decide +kernel
theorem dX1_takeFrom_48 : decode cX1_takeFrom 48 = .ok (.iconst 0, 1) := by decide +kernel
theorem dX1_takeFrom_49 : decode cX1_takeFrom 49 = .ok (.istore_n 2, 1) := by decide +kernel
theorem dX1_takeFrom_50 : decode cX1_takeFrom 50 = .ok (.iload_n 2, 1) := by decide +kernel
theorem dX1_takeFrom_51 : decode cX1_takeFrom 51 = .ok (.aload_n 1, 1) := by decide +kernel
theorem dX1_takeFrom_52 : decode cX1_takeFrom 52 = .ok (.getfield 34, 3) := by decide +kernel
theorem dX1_takeFrom_55 : decode cX1_takeFrom 55 = .ok (.if_icmp .ge 28, 3) := by decide +kernel
theorem dX1_takeFrom_58 : decode cX1_takeFrom 58 = .ok (.aload_n 0, 1) := by decide +kernel
theorem dX1_takeFrom_59 : decode cX1_takeFrom 59 = .ok (.aload_n 1, 1) := by decide +kernel
theorem dX1_takeFrom_60 : decode cX1_takeFrom 60 = .ok (.iload_n 2, 1) := by decide +kernel
theorem dX1_takeFrom_61 : decode cX1_takeFrom 61 = .ok (.invokevirtual 52, 3) := by decide +kernel
theorem dX1_takeFrom_64 : decode cX1_takeFrom 64 = .ok (.aload_n 1, 1) := by decide +kernel
theorem dX1_takeFrom_65 : decode cX1_takeFrom 65 = .ok (.iload_n 2, 1) := by decide +kernel
theorem dX1_takeFrom_66 : decode cX1_takeFrom 66 = .ok (.invokevirtual 56, 3) := by decide +kernel
theorem dX1_takeFrom_69 : decode cX1_takeFrom 69 = .ok (.aload_n 1, 1) := by decide +kernel
theorem dX1_takeFrom_70 : decode cX1_takeFrom 70 = .ok (.iload_n 2, 1) := by decide +kernel
theorem dX1_takeFrom_71 : decode cX1_takeFrom 71 = .ok (.invokevirtual 59, 3) := by decide +kernel
theorem dX1_takeFrom_74 : decode cX1_takeFrom 74 = .ok (.invokevirtual 63, 3) := by decide +kernel
theorem dX1_takeFrom_77 : decode cX1_takeFrom 77 = .ok (.iinc 2 1, 3) := by decide +kernel
theorem dX1_takeFrom_80 : decode cX1_takeFrom 80 = .ok (.goto (-30), 3) := by decide +kernel
theorem dX1_takeFrom_83 : decode cX1_takeFrom 83 = .ok (.return_, 1) := by decide +kernel
theorem dX1_isCopy_0 : decode cX1_isCopy 0 = .ok (.aload_n 0, 1) := by decide +kernel
theorem dX1_isCopy_1 : decode cX1_isCopy 1 = .ok (.getfield 9, 3) := by decide +kernel
theorem dX1_isCopy_4 : decode cX1_isCopy 4 = .ok (.iconst (-1), 1) := by decide +kernel
theorem dX1_isCopy_5 : decode cX1_isCopy 5 = .ok (.if_icmp .eq 7, 3) := by decide +kernel
theorem dX1_isCopy_8 : decode cX1_isCopy 8 = .ok (.iconst 1, 1) := by decide +kernel
theorem dX1_isCopy_9 : decode cX1_isCopy 9 = .ok (.goto 4, 3) := by decide +kernel
theorem dX1_isCopy_12 : decode cX1_isCopy 12 = .ok (.iconst 0, 1) := by decide +kernel
theorem dX1_isCopy_13 : decode cX1_isCopy 13 = .ok (.ireturn, 1) := by decide +kernel
theorem dX1_isFull_0 : decode cX1_isFull 0 = .ok (.aload_n 0, 1) := by decide +kernel
theorem dX1_isFull_1 : decode cX1_isFull 1 = .ok (.getfield 34, 3) := by decide +kernel
theorem dX1_isFull_4 : decode cX1_isFull 4 = .ok (.bipush 20, 2) := by decide +kernel
theorem dX1_isFull_6 : decode cX1_isFull 6 = .ok (.if_icmp .lt 7, 3) := by decide +kernel
theorem dX1_isFull_9 : decode cX1_isFull 9 = .ok (.iconst 1, 1) := by decide +kernel
theorem dX1_isFull_10 : decode cX1_isFull 10 = .ok (.goto 4, 3) := by decide +kernel
theorem dX1_isFull_13 : decode cX1_isFull 13 = .ok (.iconst 0, 1) := by decide +kernel
theorem dX1_isFull_14 : decode cX1_isFull 14 = .ok (.ireturn, 1) := by decide +kernel
theorem dX1_add_0 : decode cX1_add 0 = .ok (.aload_n 0, 1) := by decide +kernel
theorem dX1_add_1 : decode cX1_add 1 = .ok (.getfield 34, 3) := by decide +kernel
theorem dX1_add_4 : decode cX1_add 4 = .ok (.ifCond .lt 91, 3) := by decide +kernel
theorem dX1_add_7 : decode cX1_add 7 = .ok (.aload_n 0, 1) := by decide +kernel
theorem dX1_add_8 : decode cX1_add 8 = .ok (.getfield 34, 3) := by decide +kernel
theorem dX1_add_11 : decode cX1_add 11 = .ok (.aload_n 0, 1) := by decide +kernel
theorem dX1_add_12 : decode cX1_add 12 = .ok (.getfield 37, 3) := by decide +kernel
theorem dX1_add_15 : decode cX1_add 15 = .ok (.arraylength, 1) := by decide +kernel
theorem dX1_add_16 : decode cX1_add 16 = .ok (.if_icmp .ge 79, 3) := by decide +kernel
theorem dX1_add_19 : decode cX1_add 19 = .ok (.aload_n 0, 1) := by decide +kernel
theorem dX1_add_20 : decode cX1_add 20 = .ok (.getfield 34, 3) := by decide +kernel
theorem dX1_add_23 : decode cX1_add 23 = .ok (.aload_n 0, 1) := by decide +kernel
theorem dX1_add_24 : decode cX1_add 24 = .ok (.getfield 41, 3) := by decide +kernel
theorem dX1_add_27 : decode cX1_add 27 = .ok (.arraylength, 1) := by decide +kernel
theorem dX1_add_28 : decode cX1_add 28 = .ok (.if_icmp .ge 67, 3) := by decide +kernel
theorem dX1_add_31 : decode cX1_add 31 = .ok (.aload_n 0, 1) := by decide +kernel
theorem dX1_add_32 : decode cX1_add 32 = .ok (.getfield 34, 3) := by decide +kernel
theorem dX1_add_35 : decode cX1_add 35 = .ok (.aload_n 0, 1) := by decide +kernel
theorem dX1_add_36 : decode cX1_add 36 = .ok (.getfield 44, 3) := by decide +kernel
theorem dX1_add_39 : decode cX1_add 39 = .ok (.arraylength, 1) := by decide +kernel
theorem dX1_add_40 : decode cX1_add 40 = .ok (.if_icmp .ge 55, 3) := by decide +kernel
theorem dX1_add_43 : decode cX1_add 43 = .ok (.aload_n 0, 1) := by decide +kernel
theorem dX1_add_44 : decode cX1_add 44 = .ok (.getfield 37, 3) := by decide +kernel
theorem dX1_add_47 : decode cX1_add 47 = .ok (.aload_n 0, 1) := by decide +kernel
theorem dX1_add_48 : decode cX1_add 48 = .ok (.getfield 34, 3) := by decide +kernel
theorem dX1_add_51 : decode cX1_add 51 = .ok (.lload_n 1, 1) := by decide +kernel
theorem dX1_add_52 : decode cX1_add 52 = .ok (.lastore, 1) := by decide +kernel
theorem dX1_add_53 : decode cX1_add 53 = .ok (.aload_n 0, 1) := by decide +kernel
theorem dX1_add_54 : decode cX1_add 54 = .ok (.getfield 41, 3) := by decide +kernel
theorem dX1_add_57 : decode cX1_add 57 = .ok (.aload_n 0, 1) := by decide +kernel
theorem dX1_add_58 : decode cX1_add 58 = .ok (.getfield 34, 3) := by decide +kernel
theorem dX1_add_61 : decode cX1_add 61 = .ok (.lload_n 3, 1) := by decide +kernel
theorem dX1_add_62 : decode cX1_add 62 = .ok (.lastore, 1) := by decide +kernel
theorem dX1_add_63 : decode cX1_add 63 = .ok (.aload_n 0, 1) := by decide +kernel
theorem dX1_add_64 : decode cX1_add 64 = .ok (.getfield 44, 3) := by decide +kernel
theorem dX1_add_67 : decode cX1_add 67 = .ok (.aload_n 0, 1) := by decide +kernel
theorem dX1_add_68 : decode cX1_add 68 = .ok (.getfield 34, 3) := by decide +kernel
theorem dX1_add_71 : decode cX1_add 71 = .ok (.aload_n 0, 1) := by decide +kernel
theorem dX1_add_72 : decode cX1_add 72 = .ok (.getfield 34, 3) := by decide +kernel
theorem dX1_add_75 : decode cX1_add 75 = .ok (.ifCond .ne 7, 3) := by decide +kernel
theorem dX1_add_78 : decode cX1_add 78 = .ok (.iconst (-1), 1) := by decide +kernel
theorem dX1_add_79 : decode cX1_add 79 = .ok (.goto 5, 3) := by decide +kernel
theorem dX1_add_82 : decode cX1_add 82 = .ok (.iload 5, 2) := by decide +kernel
theorem dX1_add_84 : decode cX1_add 84 = .ok (.iastore, 1) := by decide +kernel
theorem dX1_add_85 : decode cX1_add 85 = .ok (.aload_n 0, 1) := by decide +kernel
theorem dX1_add_86 : decode cX1_add 86 = .ok (.dup, 1) := by decide +kernel
theorem dX1_add_87 : decode cX1_add 87 = .ok (.getfield 34, 3) := by decide +kernel
theorem dX1_add_90 : decode cX1_add 90 = .ok (.iconst 1, 1) := by decide +kernel
theorem dX1_add_91 : decode cX1_add 91 = .ok (.iadd, 1) := by decide +kernel
theorem dX1_add_92 : decode cX1_add 92 = .ok (.putfield 34, 3) := by decide +kernel
theorem dX1_add_95 : decode cX1_add 95 = .ok (.return_, 1) := by decide +kernel
theorem dX1_has_0 : decode cX1_has 0 = .ok (.iload_n 1, 1) := by decide +kernel
theorem dX1_has_1 : decode cX1_has 1 = .ok (.ifCond .lt 15, 3) := by decide +kernel
theorem dX1_has_4 : decode cX1_has 4 = .ok (.iload_n 1, 1) := by decide +kernel
theorem dX1_has_5 : decode cX1_has 5 = .ok (.aload_n 0, 1) := by decide +kernel
theorem dX1_has_6 : decode cX1_has 6 = .ok (.getfield 34, 3) := by decide +kernel
theorem dX1_has_9 : decode cX1_has 9 = .ok (.if_icmp .ge 7, 3) := by decide +kernel
theorem dX1_has_12 : decode cX1_has 12 = .ok (.iconst 1, 1) := by decide +kernel
theorem dX1_has_13 : decode cX1_has 13 = .ok (.goto 4, 3) := by decide +kernel
theorem dX1_has_16 : decode cX1_has 16 = .ok (.iconst 0, 1) := by decide +kernel
theorem dX1_has_17 : decode cX1_has 17 = .ok (.ireturn, 1) := by decide +kernel
theorem dX1_x_0 : decode cX1_x 0 = .ok (.aload_n 0, 1) := by decide +kernel
theorem dX1_x_1 : decode cX1_x 1 = .ok (.iload_n 1, 1) := by decide +kernel
theorem dX1_x_2 : decode cX1_x 2 = .ok (.invokevirtual 67, 3) := by decide +kernel
theorem dX1_x_5 : decode cX1_x 5 = .ok (.ifCond .eq 21, 3) := by decide +kernel
theorem dX1_x_8 : decode cX1_x 8 = .ok (.iload_n 1, 1) := by decide +kernel
theorem dX1_x_9 : decode cX1_x 9 = .ok (.aload_n 0, 1) := by decide +kernel
theorem dX1_x_10 : decode cX1_x 10 = .ok (.getfield 37, 3) := by decide +kernel
theorem dX1_x_13 : decode cX1_x 13 = .ok (.arraylength, 1) := by decide +kernel
theorem dX1_x_14 : decode cX1_x 14 = .ok (.if_icmp .ge 12, 3) := by decide +kernel
theorem dX1_x_17 : decode cX1_x 17 = .ok (.aload_n 0, 1) := by decide +kernel
theorem dX1_x_18 : decode cX1_x 18 = .ok (.getfield 37, 3) := by decide +kernel
theorem dX1_x_21 : decode cX1_x 21 = .ok (.iload_n 1, 1) := by decide +kernel
theorem dX1_x_22 : decode cX1_x 22 = .ok (.laload, 1) := by decide +kernel
theorem dX1_x_23 : decode cX1_x 23 = .ok (.goto 4, 3) := by decide +kernel
theorem dX1_x_26 : decode cX1_x 26 = .ok (.lconst 0, 1) := by decide +kernel
theorem dX1_x_27 : decode cX1_x 27 = .ok (.lreturn, 1) := by decide +kernel
theorem dX1_y_0 : decode cX1_y 0 = .ok (.aload_n 0, 1) := by decide +kernel
theorem dX1_y_1 : decode cX1_y 1 = .ok (.iload_n 1, 1) := by decide +kernel
theorem dX1_y_2 : decode cX1_y 2 = .ok (.invokevirtual 67, 3) := by decide +kernel
theorem dX1_y_5 : decode cX1_y 5 = .ok (.ifCond .eq 21, 3) := by decide +kernel
theorem dX1_y_8 : decode cX1_y 8 = .ok (.iload_n 1, 1) := by decide +kernel
theorem dX1_y_9 : decode cX1_y 9 = .ok (.aload_n 0, 1) := by decide +kernel
theorem dX1_y_10 : decode cX1_y 10 = .ok (.getfield 41, 3) := by decide +kernel
theorem dX1_y_13 : decode cX1_y 13 = .ok (.arraylength, 1) := by decide +kernel
theorem dX1_y_14 : decode cX1_y 14 = .ok (.if_icmp .ge 12, 3) := by decide +kernel
theorem dX1_y_17 : decode cX1_y 17 = .ok (.aload_n 0, 1) := by decide +kernel
theorem dX1_y_18 : decode cX1_y 18 = .ok (.getfield 41, 3) := by decide +kernel
theorem dX1_y_21 : decode cX1_y 21 = .ok (.iload_n 1, 1) := by decide +kernel
theorem dX1_y_22 : decode cX1_y 22 = .ok (.laload, 1) := by decide +kernel
theorem dX1_y_23 : decode cX1_y 23 = .ok (.goto 4, 3) := by decide +kernel
theorem dX1_y_26 : decode cX1_y 26 = .ok (.lconst 0, 1) := by decide +kernel
theorem dX1_y_27 : decode cX1_y 27 = .ok (.lreturn, 1) := by decide +kernel
theorem dX1_line_0 : decode cX1_line 0 = .ok (.aload_n 0, 1) := by decide +kernel
theorem dX1_line_1 : decode cX1_line 1 = .ok (.iload_n 1, 1) := by decide +kernel
theorem dX1_line_2 : decode cX1_line 2 = .ok (.invokevirtual 67, 3) := by decide +kernel
theorem dX1_line_5 : decode cX1_line 5 = .ok (.ifCond .eq 21, 3) := by decide +kernel
theorem dX1_line_8 : decode cX1_line 8 = .ok (.iload_n 1, 1) := by decide +kernel
theorem dX1_line_9 : decode cX1_line 9 = .ok (.aload_n 0, 1) := by decide +kernel
theorem dX1_line_10 : decode cX1_line 10 = .ok (.getfield 44, 3) := by decide +kernel
theorem dX1_line_13 : decode cX1_line 13 = .ok (.arraylength, 1) := by decide +kernel
theorem dX1_line_14 : decode cX1_line 14 = .ok (.if_icmp .ge 12, 3) := by decide +kernel
theorem dX1_line_17 : decode cX1_line 17 = .ok (.aload_n 0, 1) := by decide +kernel
theorem dX1_line_18 : decode cX1_line 18 = .ok (.getfield 44, 3) := by decide +kernel
theorem dX1_line_21 : decode cX1_line 21 = .ok (.iload_n 1, 1) := by decide +kernel
theorem dX1_line_22 : decode cX1_line 22 = .ok (.iaload, 1) := by decide +kernel
theorem dX1_line_23 : decode cX1_line 23 = .ok (.goto 4, 3) := by decide +kernel
theorem dX1_line_26 : decode cX1_line 26 = .ok (.iconst (-1), 1) := by decide +kernel
theorem dX1_line_27 : decode cX1_line 27 = .ok (.ireturn, 1) := by decide +kernel
theorem dX1_changeLine_0 : decode cX1_changeLine 0 = .ok (.aload_n 0, 1) := by decide +kernel
theorem dX1_changeLine_1 : decode cX1_changeLine 1 = .ok (.iload_n 1, 1) := by decide +kernel
theorem dX1_changeLine_2 : decode cX1_changeLine 2 = .ok (.invokevirtual 67, 3) := by decide +kernel
theorem dX1_changeLine_5 : decode cX1_changeLine 5 = .ok (.ifCond .eq 19, 3) := by decide +kernel
theorem dX1_changeLine_8 : decode cX1_changeLine 8 = .ok (.iload_n 1, 1) := by decide +kernel
theorem dX1_changeLine_9 : decode cX1_changeLine 9 = .ok (.aload_n 0, 1) := by decide +kernel
theorem dX1_changeLine_10 : decode cX1_changeLine 10 = .ok (.getfield 44, 3) := by decide +kernel
theorem dX1_changeLine_13 : decode cX1_changeLine 13 = .ok (.arraylength, 1) := by decide +kernel
theorem dX1_changeLine_14 : decode cX1_changeLine 14 = .ok (.if_icmp .ge 10, 3) := by decide +kernel
theorem dX1_changeLine_17 : decode cX1_changeLine 17 = .ok (.aload_n 0, 1) := by decide +kernel
theorem dX1_changeLine_18 : decode cX1_changeLine 18 = .ok (.getfield 44, 3) := by decide +kernel
theorem dX1_changeLine_21 : decode cX1_changeLine 21 = .ok (.iload_n 1, 1) := by decide +kernel
theorem dX1_changeLine_22 : decode cX1_changeLine 22 = .ok (.iload_n 2, 1) := by decide +kernel
theorem dX1_changeLine_23 : decode cX1_changeLine 23 = .ok (.iastore, 1) := by decide +kernel
theorem dX1_changeLine_24 : decode cX1_changeLine 24 = .ok (.return_, 1) := by decide +kernel
theorem dX1_isJoined_0 : decode cX1_isJoined 0 = .ok (.aload_n 0, 1) := by decide +kernel
theorem dX1_isJoined_1 : decode cX1_isJoined 1 = .ok (.iload_n 1, 1) := by decide +kernel
theorem dX1_isJoined_2 : decode cX1_isJoined 2 = .ok (.invokevirtual 59, 3) := by decide +kernel
theorem dX1_isJoined_5 : decode cX1_isJoined 5 = .ok (.iconst (-1), 1) := by decide +kernel
theorem dX1_isJoined_6 : decode cX1_isJoined 6 = .ok (.if_icmp .eq 7, 3) := by decide +kernel
theorem dX1_isJoined_9 : decode cX1_isJoined 9 = .ok (.iconst 1, 1) := by decide +kernel
theorem dX1_isJoined_10 : decode cX1_isJoined 10 = .ok (.goto 4, 3) := by decide +kernel
theorem dX1_isJoined_13 : decode cX1_isJoined 13 = .ok (.iconst 0, 1) := by decide +kernel
theorem dX1_isJoined_14 : decode cX1_isJoined 14 = .ok (.ireturn, 1) := by decide +kernel
theorem dX1_width_0 : decode cX1_width 0 = .ok (.aload_n 0, 1) := by decide +kernel
theorem dX1_width_1 : decode cX1_width 1 = .ok (.iload_n 1, 1) := by decide +kernel
theorem dX1_width_2 : decode cX1_width 2 = .ok (.invokevirtual 59, 3) := by decide +kernel
theorem dX1_width_5 : decode cX1_width 5 = .ok (.iconst 0, 1) := by decide +kernel
theorem dX1_width_6 : decode cX1_width 6 = .ok (.invokestatic 71, 3) := by decide +kernel
theorem dX1_width_9 : decode cX1_width 9 = .ok (.ireturn, 1) := by decide +kernel
theorem dX1_lineLength_0 : decode cX1_lineLength 0 = .ok (.aload_n 0, 1) := by decide +kernel
theorem dX1_lineLength_1 : decode cX1_lineLength 1 = .ok (.iload_n 1, 1) := by decide +kernel
theorem dX1_lineLength_2 : decode cX1_lineLength 2 = .ok (.invokevirtual 52, 3) := by decide +kernel
theorem dX1_lineLength_5 : decode cX1_lineLength 5 = .ok (.aload_n 0, 1) := by decide +kernel
theorem dX1_lineLength_6 : decode cX1_lineLength 6 = .ok (.iload_n 1, 1) := by decide +kernel
theorem dX1_lineLength_7 : decode cX1_lineLength 7 = .ok (.iconst 1, 1) := by decide +kernel
theorem dX1_lineLength_8 : decode cX1_lineLength 8 = .ok (.isub, 1) := by decide +kernel
theorem dX1_lineLength_9 : decode cX1_lineLength 9 = .ok (.invokevirtual 52, 3) := by decide +kernel
theorem dX1_lineLength_12 : decode cX1_lineLength 12 = .ok (.lsub, 1) := by decide +kernel
theorem dX1_lineLength_13 : decode cX1_lineLength 13 = .ok (.invokestatic 77, 3) := by decide +kernel
theorem dX1_lineLength_16 : decode cX1_lineLength 16 = .ok (.lstore_n 2, 1) := by decide +kernel
theorem dX1_lineLength_17 : decode cX1_lineLength 17 = .ok (.aload_n 0, 1) := by decide +kernel
theorem dX1_lineLength_18 : decode cX1_lineLength 18 = .ok (.iload_n 1, 1) := by decide +kernel
theorem dX1_lineLength_19 : decode cX1_lineLength 19 = .ok (.invokevirtual 56, 3) := by decide +kernel
theorem dX1_lineLength_22 : decode cX1_lineLength 22 = .ok (.aload_n 0, 1) := by decide +kernel
theorem dX1_lineLength_23 : decode cX1_lineLength 23 = .ok (.iload_n 1, 1) := by decide +kernel
theorem dX1_lineLength_24 : decode cX1_lineLength 24 = .ok (.iconst 1, 1) := by decide +kernel
theorem dX1_lineLength_25 : decode cX1_lineLength 25 = .ok (.isub, 1) := by decide +kernel
theorem dX1_lineLength_26 : decode cX1_lineLength 26 = .ok (.invokevirtual 56, 3) := by decide +kernel
theorem dX1_lineLength_29 : decode cX1_lineLength 29 = .ok (.lsub, 1) := by decide +kernel
theorem dX1_lineLength_30 : decode cX1_lineLength 30 = .ok (.invokestatic 77, 3) := by decide +kernel
theorem dX1_lineLength_33 : decode cX1_lineLength 33 = .ok (.lstore 4, 2) := by decide +kernel
theorem dX1_lineLength_35 : decode cX1_lineLength 35 = .ok (.lload_n 2, 1) := by decide +kernel
theorem dX1_lineLength_36 : decode cX1_lineLength 36 = .ok (.lload 4, 2) := by decide +kernel
theorem dX1_lineLength_38 : decode cX1_lineLength 38 = .ok (.ladd, 1) := by decide +kernel
theorem dX1_lineLength_39 : decode cX1_lineLength 39 = .ok (.aload_n 0, 1) := by decide +kernel
theorem dX1_lineLength_40 : decode cX1_lineLength 40 = .ok (.getfield 19, 3) := by decide +kernel
theorem dX1_lineLength_43 : decode cX1_lineLength 43 = .ok (.invokestatic 81, 3) := by decide +kernel
theorem dX1_lineLength_46 : decode cX1_lineLength 46 = .ok (.l2i, 1) := by decide +kernel
theorem dX1_lineLength_47 : decode cX1_lineLength 47 = .ok (.ireturn, 1) := by decide +kernel
theorem dX1_drawnLines_0 : decode cX1_drawnLines 0 = .ok (.iconst 0, 1) := by decide +kernel
theorem dX1_drawnLines_1 : decode cX1_drawnLines 1 = .ok (.istore_n 1, 1) := by decide +kernel
theorem dX1_drawnLines_2 : decode cX1_drawnLines 2 = .ok (.iconst 0, 1) := by decide +kernel
theorem dX1_drawnLines_3 : decode cX1_drawnLines 3 = .ok (.istore_n 2, 1) := by decide +kernel
theorem dX1_drawnLines_4 : decode cX1_drawnLines 4 = .ok (.iload_n 2, 1) := by decide +kernel
theorem dX1_drawnLines_5 : decode cX1_drawnLines 5 = .ok (.aload_n 0, 1) := by decide +kernel
theorem dX1_drawnLines_6 : decode cX1_drawnLines 6 = .ok (.getfield 34, 3) := by decide +kernel
theorem dX1_drawnLines_9 : decode cX1_drawnLines 9 = .ok (.if_icmp .ge 20, 3) := by decide +kernel
theorem dX1_drawnLines_12 : decode cX1_drawnLines 12 = .ok (.aload_n 0, 1) := by decide +kernel
theorem dX1_drawnLines_13 : decode cX1_drawnLines 13 = .ok (.iload_n 2, 1) := by decide +kernel
theorem dX1_drawnLines_14 : decode cX1_drawnLines 14 = .ok (.invokevirtual 85, 3) := by decide +kernel
theorem dX1_drawnLines_17 : decode cX1_drawnLines 17 = .ok (.ifCond .le 6, 3) := by decide +kernel
theorem dX1_drawnLines_20 : decode cX1_drawnLines 20 = .ok (.iinc 1 1, 3) := by decide +kernel
theorem dX1_drawnLines_23 : decode cX1_drawnLines 23 = .ok (.iinc 2 1, 3) := by decide +kernel
theorem dX1_drawnLines_26 : decode cX1_drawnLines 26 = .ok (.goto (-22), 3) := by decide +kernel
theorem dX1_drawnLines_29 : decode cX1_drawnLines 29 = .ok (.iload_n 1, 1) := by decide +kernel
theorem dX1_drawnLines_30 : decode cX1_drawnLines 30 = .ok (.ireturn, 1) := by decide +kernel
theorem dX1_drawnLength_0 : decode cX1_drawnLength 0 = .ok (.iconst 0, 1) := by decide +kernel
theorem dX1_drawnLength_1 : decode cX1_drawnLength 1 = .ok (.istore_n 1, 1) := by decide +kernel
theorem dX1_drawnLength_2 : decode cX1_drawnLength 2 = .ok (.iconst 0, 1) := by decide +kernel
theorem dX1_drawnLength_3 : decode cX1_drawnLength 3 = .ok (.istore_n 2, 1) := by decide +kernel
theorem dX1_drawnLength_4 : decode cX1_drawnLength 4 = .ok (.iload_n 2, 1) := by decide +kernel
theorem dX1_drawnLength_5 : decode cX1_drawnLength 5 = .ok (.aload_n 0, 1) := by decide +kernel
theorem dX1_drawnLength_6 : decode cX1_drawnLength 6 = .ok (.getfield 34, 3) := by decide +kernel
theorem dX1_drawnLength_9 : decode cX1_drawnLength 9 = .ok (.if_icmp .ge 25, 3) := by decide +kernel
theorem dX1_drawnLength_12 : decode cX1_drawnLength 12 = .ok (.aload_n 0, 1) := by decide +kernel
theorem dX1_drawnLength_13 : decode cX1_drawnLength 13 = .ok (.iload_n 2, 1) := by decide +kernel
theorem dX1_drawnLength_14 : decode cX1_drawnLength 14 = .ok (.invokevirtual 85, 3) := by decide +kernel
theorem dX1_drawnLength_17 : decode cX1_drawnLength 17 = .ok (.ifCond .le 11, 3) := by decide +kernel
theorem dX1_drawnLength_20 : decode cX1_drawnLength 20 = .ok (.iload_n 1, 1) := by decide +kernel
theorem dX1_drawnLength_21 : decode cX1_drawnLength 21 = .ok (.aload_n 0, 1) := by decide +kernel
theorem dX1_drawnLength_22 : decode cX1_drawnLength 22 = .ok (.iload_n 2, 1) := by decide +kernel
theorem dX1_drawnLength_23 : decode cX1_drawnLength 23 = .ok (.invokevirtual 88, 3) := by decide +kernel
theorem dX1_drawnLength_26 : decode cX1_drawnLength 26 = .ok (.iadd, 1) := by decide +kernel
theorem dX1_drawnLength_27 : decode cX1_drawnLength 27 = .ok (.istore_n 1, 1) := by decide +kernel
theorem dX1_drawnLength_28 : decode cX1_drawnLength 28 = .ok (.iinc 2 1, 3) := by decide +kernel
theorem dX1_drawnLength_31 : decode cX1_drawnLength 31 = .ok (.goto (-27), 3) := by decide +kernel
theorem dX1_drawnLength_34 : decode cX1_drawnLength 34 = .ok (.iload_n 1, 1) := by decide +kernel
theorem dX1_drawnLength_35 : decode cX1_drawnLength 35 = .ok (.ireturn, 1) := by decide +kernel
theorem dX1_greatestWidth_0 : decode cX1_greatestWidth 0 = .ok (.iconst 0, 1) := by decide +kernel
theorem dX1_greatestWidth_1 : decode cX1_greatestWidth 1 = .ok (.istore_n 1, 1) := by decide +kernel
theorem dX1_greatestWidth_2 : decode cX1_greatestWidth 2 = .ok (.iconst 0, 1) := by decide +kernel
theorem dX1_greatestWidth_3 : decode cX1_greatestWidth 3 = .ok (.istore_n 2, 1) := by decide +kernel
theorem dX1_greatestWidth_4 : decode cX1_greatestWidth 4 = .ok (.iload_n 2, 1) := by decide +kernel
theorem dX1_greatestWidth_5 : decode cX1_greatestWidth 5 = .ok (.aload_n 0, 1) := by decide +kernel
theorem dX1_greatestWidth_6 : decode cX1_greatestWidth 6 = .ok (.getfield 34, 3) := by decide +kernel
theorem dX1_greatestWidth_9 : decode cX1_greatestWidth 9 = .ok (.if_icmp .ge 19, 3) := by decide +kernel
theorem dX1_greatestWidth_12 : decode cX1_greatestWidth 12 = .ok (.iload_n 1, 1) := by decide +kernel
theorem dX1_greatestWidth_13 : decode cX1_greatestWidth 13 = .ok (.aload_n 0, 1) := by decide +kernel
theorem dX1_greatestWidth_14 : decode cX1_greatestWidth 14 = .ok (.iload_n 2, 1) := by decide +kernel
theorem dX1_greatestWidth_15 : decode cX1_greatestWidth 15 = .ok (.invokevirtual 85, 3) := by decide +kernel
theorem dX1_greatestWidth_18 : decode cX1_greatestWidth 18 = .ok (.invokestatic 71, 3) := by decide +kernel
theorem dX1_greatestWidth_21 : decode cX1_greatestWidth 21 = .ok (.istore_n 1, 1) := by decide +kernel
theorem dX1_greatestWidth_22 : decode cX1_greatestWidth 22 = .ok (.iinc 2 1, 3) := by decide +kernel
theorem dX1_greatestWidth_25 : decode cX1_greatestWidth 25 = .ok (.goto (-21), 3) := by decide +kernel
theorem dX1_greatestWidth_28 : decode cX1_greatestWidth 28 = .ok (.iload_n 1, 1) := by decide +kernel
theorem dX1_greatestWidth_29 : decode cX1_greatestWidth 29 = .ok (.ireturn, 1) := by decide +kernel
theorem dX1_ratioAsFloat_0 : decode cX1_ratioAsFloat 0 = .ok (.aload_n 0, 1) := by decide +kernel
theorem dX1_ratioAsFloat_1 : decode cX1_ratioAsFloat 1 = .ok (.getfield 15, 3) := by decide +kernel
theorem dX1_ratioAsFloat_4 : decode cX1_ratioAsFloat 4 = .ok (.aload_n 0, 1) := by decide +kernel
theorem dX1_ratioAsFloat_5 : decode cX1_ratioAsFloat 5 = .ok (.getfield 19, 3) := by decide +kernel
theorem dX1_ratioAsFloat_8 : decode cX1_ratioAsFloat 8 = .ok (.iconst 0, 1) := by decide +kernel
theorem dX1_ratioAsFloat_9 : decode cX1_ratioAsFloat 9 = .ok (.invokestatic 91, 3) := by decide +kernel
theorem dX1_ratioAsFloat_12 : decode cX1_ratioAsFloat 12 = .ok (.lstore_n 1, 1) := by decide +kernel
theorem dX1_ratioAsFloat_13 : decode cX1_ratioAsFloat 13 = .ok (.aload_n 0, 1) := by decide +kernel
theorem dX1_ratioAsFloat_14 : decode cX1_ratioAsFloat 14 = .ok (.getfield 15, 3) := by decide +kernel
theorem dX1_ratioAsFloat_17 : decode cX1_ratioAsFloat 17 = .ok (.aload_n 0, 1) := by decide +kernel
theorem dX1_ratioAsFloat_18 : decode cX1_ratioAsFloat 18 = .ok (.getfield 19, 3) := by decide +kernel
theorem dX1_ratioAsFloat_21 : decode cX1_ratioAsFloat 21 = .ok (.iconst 1, 1) := by decide +kernel
theorem dX1_ratioAsFloat_22 : decode cX1_ratioAsFloat 22 = .ok (.invokestatic 91, 3) := by decide +kernel
theorem dX1_ratioAsFloat_25 : decode cX1_ratioAsFloat 25 = .ok (.lstore_n 3, 1) := by decide +kernel
theorem dX1_ratioAsFloat_26 : decode cX1_ratioAsFloat 26 = .ok (.lload_n 3, 1) := by decide +kernel
theorem dX1_ratioAsFloat_27 : decode cX1_ratioAsFloat 27 = .ok (.lconst 0, 1) := by decide +kernel
theorem dX1_ratioAsFloat_28 : decode cX1_ratioAsFloat 28 = .ok (.lcmp, 1) := by decide +kernel
theorem dX1_ratioAsFloat_29 : decode cX1_ratioAsFloat 29 = .ok (.ifCond .le 11, 3) := by decide +kernel
theorem dX1_ratioAsFloat_32 : decode cX1_ratioAsFloat 32 = .ok (.lload_n 1, 1) := by decide +kernel
theorem dX1_ratioAsFloat_33 : decode cX1_ratioAsFloat 33 = .ok (.l2f, 1) := by decide +kernel
theorem dX1_ratioAsFloat_34 : decode cX1_ratioAsFloat 34 = .ok (.lload_n 3, 1) := by decide +kernel
theorem dX1_ratioAsFloat_35 : decode cX1_ratioAsFloat 35 = .ok (.l2f, 1) := by decide +kernel
theorem dX1_ratioAsFloat_36 : decode cX1_ratioAsFloat 36 = .ok (.fdiv, 1) := by decide +kernel
theorem dX1_ratioAsFloat_37 : decode cX1_ratioAsFloat 37 = .ok (.goto 4, 3) := by decide +kernel
theorem dX1_ratioAsFloat_40 : decode cX1_ratioAsFloat 40 = .ok (.fconst 1, 1) := by decide +kernel
theorem dX1_ratioAsFloat_41 : decode cX1_ratioAsFloat 41 = .ok (.freturn, 1) := by decide +kernel
theorem dX1_xAtOnce_0 : decode cX1_xAtOnce 0 = .ok (.aload_n 0, 1) := by decide +kernel
theorem dX1_xAtOnce_1 : decode cX1_xAtOnce 1 = .ok (.getfield 15, 3) := by decide +kernel
theorem dX1_xAtOnce_4 : decode cX1_xAtOnce 4 = .ok (.aload_n 0, 1) := by decide +kernel
theorem dX1_xAtOnce_5 : decode cX1_xAtOnce 5 = .ok (.getfield 22, 3) := by decide +kernel
theorem dX1_xAtOnce_8 : decode cX1_xAtOnce 8 = .ok (.i2l, 1) := by decide +kernel
theorem dX1_xAtOnce_9 : decode cX1_xAtOnce 9 = .ok (.lmul, 1) := by decide +kernel
theorem dX1_xAtOnce_10 : decode cX1_xAtOnce 10 = .ok (.lload_n 1, 1) := by decide +kernel
theorem dX1_xAtOnce_11 : decode cX1_xAtOnce 11 = .ok (.lmul, 1) := by decide +kernel
theorem dX1_xAtOnce_12 : decode cX1_xAtOnce 12 = .ok (.aload_n 0, 1) := by decide +kernel
theorem dX1_xAtOnce_13 : decode cX1_xAtOnce 13 = .ok (.getfield 28, 3) := by decide +kernel
theorem dX1_xAtOnce_16 : decode cX1_xAtOnce 16 = .ok (.ladd, 1) := by decide +kernel
theorem dX1_xAtOnce_17 : decode cX1_xAtOnce 17 = .ok (.lreturn, 1) := by decide +kernel
theorem dX1_yAtOnce_0 : decode cX1_yAtOnce 0 = .ok (.aload_n 0, 1) := by decide +kernel
theorem dX1_yAtOnce_1 : decode cX1_yAtOnce 1 = .ok (.getfield 15, 3) := by decide +kernel
theorem dX1_yAtOnce_4 : decode cX1_yAtOnce 4 = .ok (.aload_n 0, 1) := by decide +kernel
theorem dX1_yAtOnce_5 : decode cX1_yAtOnce 5 = .ok (.getfield 25, 3) := by decide +kernel
theorem dX1_yAtOnce_8 : decode cX1_yAtOnce 8 = .ok (.i2l, 1) := by decide +kernel
theorem dX1_yAtOnce_9 : decode cX1_yAtOnce 9 = .ok (.lmul, 1) := by decide +kernel
theorem dX1_yAtOnce_10 : decode cX1_yAtOnce 10 = .ok (.lload_n 1, 1) := by decide +kernel
theorem dX1_yAtOnce_11 : decode cX1_yAtOnce 11 = .ok (.lmul, 1) := by decide +kernel
theorem dX1_yAtOnce_12 : decode cX1_yAtOnce 12 = .ok (.aload_n 0, 1) := by decide +kernel
theorem dX1_yAtOnce_13 : decode cX1_yAtOnce 13 = .ok (.getfield 31, 3) := by decide +kernel
theorem dX1_yAtOnce_16 : decode cX1_yAtOnce 16 = .ok (.ladd, 1) := by decide +kernel
theorem dX1_yAtOnce_17 : decode cX1_yAtOnce 17 = .ok (.lreturn, 1) := by decide +kernel
theorem dX1_isTooFine_0 : decode cX1_isTooFine 0 = .ok (.aload_n 0, 1) := by decide +kernel
theorem dX1_isTooFine_1 : decode cX1_isTooFine 1 = .ok (.getfield 15, 3) := by decide +kernel
theorem dX1_isTooFine_4 : decode cX1_isTooFine 4 = .ok (.aload_n 0, 1) := by decide +kernel
theorem dX1_isTooFine_5 : decode cX1_isTooFine 5 = .ok (.getfield 19, 3) := by decide +kernel
theorem dX1_isTooFine_8 : decode cX1_isTooFine 8 = .ok (.iconst 0, 1) := by decide +kernel
theorem dX1_isTooFine_9 : decode cX1_isTooFine 9 = .ok (.invokestatic 91, 3) := by decide +kernel
theorem dX1_isTooFine_12 : decode cX1_isTooFine 12 = .ok (.ldc2_w 95, 3) := by decide +kernel
theorem dX1_isTooFine_15 : decode cX1_isTooFine 15 = .ok (.lcmp, 1) := by decide +kernel
theorem dX1_isTooFine_16 : decode cX1_isTooFine 16 = .ok (.ifCond .gt 22, 3) := by decide +kernel
theorem dX1_isTooFine_19 : decode cX1_isTooFine 19 = .ok (.aload_n 0, 1) := by decide +kernel
theorem dX1_isTooFine_20 : decode cX1_isTooFine 20 = .ok (.getfield 15, 3) := by decide +kernel
theorem dX1_isTooFine_23 : decode cX1_isTooFine 23 = .ok (.aload_n 0, 1) := by decide +kernel
theorem dX1_isTooFine_24 : decode cX1_isTooFine 24 = .ok (.getfield 19, 3) := by decide +kernel
theorem dX1_isTooFine_27 : decode cX1_isTooFine 27 = .ok (.iconst 1, 1) := by decide +kernel
theorem dX1_isTooFine_28 : decode cX1_isTooFine 28 = .ok (.invokestatic 91, 3) := by decide +kernel
theorem dX1_isTooFine_31 : decode cX1_isTooFine 31 = .ok (.ldc2_w 95, 3) := by decide +kernel
theorem dX1_isTooFine_34 : decode cX1_isTooFine 34 = .ok (.lcmp, 1) := by decide +kernel
theorem dX1_isTooFine_35 : decode cX1_isTooFine 35 = .ok (.ifCond .le 5, 3) := by decide +kernel
theorem dX1_isTooFine_38 : decode cX1_isTooFine 38 = .ok (.iconst 1, 1) := by decide +kernel
theorem dX1_isTooFine_39 : decode cX1_isTooFine 39 = .ok (.ireturn, 1) := by decide +kernel
theorem dX1_isTooFine_40 : decode cX1_isTooFine 40 = .ok (.iconst 0, 1) := by decide +kernel
theorem dX1_isTooFine_41 : decode cX1_isTooFine 41 = .ok (.istore_n 1, 1) := by decide +kernel
theorem dX1_isTooFine_42 : decode cX1_isTooFine 42 = .ok (.iload_n 1, 1) := by decide +kernel
theorem dX1_isTooFine_43 : decode cX1_isTooFine 43 = .ok (.aload_n 0, 1) := by decide +kernel
theorem dX1_isTooFine_44 : decode cX1_isTooFine 44 = .ok (.getfield 34, 3) := by decide +kernel
theorem dX1_isTooFine_47 : decode cX1_isTooFine 47 = .ok (.if_icmp .ge 51, 3) := by decide +kernel
theorem dX1_isTooFine_50 : decode cX1_isTooFine 50 = .ok (.aload_n 0, 1) := by decide +kernel
theorem dX1_isTooFine_51 : decode cX1_isTooFine 51 = .ok (.iload_n 1, 1) := by decide +kernel
theorem dX1_isTooFine_52 : decode cX1_isTooFine 52 = .ok (.invokevirtual 52, 3) := by decide +kernel
theorem dX1_isTooFine_55 : decode cX1_isTooFine 55 = .ok (.aload_n 0, 1) := by decide +kernel
theorem dX1_isTooFine_56 : decode cX1_isTooFine 56 = .ok (.getfield 19, 3) := by decide +kernel
theorem dX1_isTooFine_59 : decode cX1_isTooFine 59 = .ok (.iconst 1, 1) := by decide +kernel
theorem dX1_isTooFine_60 : decode cX1_isTooFine 60 = .ok (.invokestatic 91, 3) := by decide +kernel
theorem dX1_isTooFine_63 : decode cX1_isTooFine 63 = .ok (.ldc2_w 95, 3) := by decide +kernel
theorem dX1_isTooFine_66 : decode cX1_isTooFine 66 = .ok (.lcmp, 1) := by decide +kernel
theorem dX1_isTooFine_67 : decode cX1_isTooFine 67 = .ok (.ifCond .gt 23, 3) := by decide +kernel
theorem dX1_isTooFine_70 : decode cX1_isTooFine 70 = .ok (.aload_n 0, 1) := by decide +kernel
theorem dX1_isTooFine_71 : decode cX1_isTooFine 71 = .ok (.iload_n 1, 1) := by decide +kernel
theorem dX1_isTooFine_72 : decode cX1_isTooFine 72 = .ok (.invokevirtual 56, 3) := by decide +kernel
theorem dX1_isTooFine_75 : decode cX1_isTooFine 75 = .ok (.aload_n 0, 1) := by decide +kernel
theorem dX1_isTooFine_76 : decode cX1_isTooFine 76 = .ok (.getfield 19, 3) := by decide +kernel
theorem dX1_isTooFine_79 : decode cX1_isTooFine 79 = .ok (.iconst 1, 1) := by decide +kernel
theorem dX1_isTooFine_80 : decode cX1_isTooFine 80 = .ok (.invokestatic 91, 3) := by decide +kernel
theorem dX1_isTooFine_83 : decode cX1_isTooFine 83 = .ok (.ldc2_w 95, 3) := by decide +kernel
theorem dX1_isTooFine_86 : decode cX1_isTooFine 86 = .ok (.lcmp, 1) := by decide +kernel
theorem dX1_isTooFine_87 : decode cX1_isTooFine 87 = .ok (.ifCond .le 5, 3) := by decide +kernel
theorem dX1_isTooFine_90 : decode cX1_isTooFine 90 = .ok (.iconst 1, 1) := by decide +kernel
theorem dX1_isTooFine_91 : decode cX1_isTooFine 91 = .ok (.ireturn, 1) := by decide +kernel
theorem dX1_isTooFine_92 : decode cX1_isTooFine 92 = .ok (.iinc 1 1, 3) := by decide +kernel
theorem dX1_isTooFine_95 : decode cX1_isTooFine 95 = .ok (.goto (-53), 3) := by decide +kernel
theorem dX1_isTooFine_98 : decode cX1_isTooFine 98 = .ok (.iconst 0, 1) := by decide +kernel
theorem dX1_isTooFine_99 : decode cX1_isTooFine 99 = .ok (.ireturn, 1) := by decide +kernel
end
section
theorem dX2_init_0 : decode cX2_init 0 = .ok (.aload_n 0, 1) := by decide +kernel
theorem dX2_init_1 : decode cX2_init 1 = .ok (.invokespecial 3, 3) := by decide +kernel
theorem dX2_init_4 : decode cX2_init 4 = .ok (.aload_n 0, 1) := by decide +kernel
theorem dX2_init_5 : decode cX2_init 5 = .ok (.bipush 100, 2) := by decide +kernel
theorem dX2_init_7 : decode cX2_init 7 = .ok (.newarray .char, 2) := by decide +kernel
theorem dX2_init_9 : decode cX2_init 9 = .ok (.putfield 9, 3) := by decide +kernel
theorem dX2_init_12 : decode cX2_init 12 = .ok (.aload_n 0, 1) := by decide +kernel
theorem dX2_init_13 : decode cX2_init 13 = .ok (.iconst 0, 1) := by decide +kernel
theorem dX2_init_14 : decode cX2_init 14 = .ok (.putfield 15, 3) := by decide +kernel
theorem dX2_init_17 : decode cX2_init 17 = .ok (.aload_n 0, 1) := by decide +kernel
theorem dX2_init_18 : decode cX2_init 18 = .ok (.iconst 0, 1) := by decide +kernel
theorem dX2_init_19 : decode cX2_init 19 = .ok (.putfield 19, 3) := by decide +kernel
theorem dX2_init_22 : decode cX2_init 22 = .ok (.aload_n 0, 1) := by decide +kernel
theorem dX2_init_23 : decode cX2_init 23 = .ok (.iconst 0, 1) := by decide +kernel
theorem dX2_init_24 : decode cX2_init 24 = .ok (.putfield 22, 3) := by decide +kernel
theorem dX2_init_27 : decode cX2_init 27 = .ok (.aload_n 0, 1) := by decide +kernel
theorem dX2_init_28 : decode cX2_init 28 = .ok (.iconst 0, 1) := by decide +kernel
theorem dX2_init_29 : decode cX2_init 29 = .ok (.putfield 25, 3) := by decide +kernel
theorem dX2_init_32 : decode cX2_init 32 = .ok (.aload_n 0, 1) := by decide +kernel
theorem dX2_init_33 : decode cX2_init 33 = .ok (.bipush 20, 2) := by decide +kernel
theorem dX2_init_35 : decode cX2_init 35 = .ok (.newarray .int, 2) := by decide +kernel
theorem dX2_init_37 : decode cX2_init 37 = .ok (.putfield 28, 3) := by decide +kernel
theorem dX2_init_40 : decode cX2_init 40 = .ok (.aload_n 0, 1) := by decide +kernel
theorem dX2_init_41 : decode cX2_init 41 = .ok (.bipush 20, 2) := by decide +kernel
theorem dX2_init_43 : decode cX2_init 43 = .ok (.newarray .int, 2) := by decide +kernel
theorem dX2_init_45 : decode cX2_init 45 = .ok (.putfield 32, 3) := by decide +kernel
theorem dX2_init_48 : decode cX2_init 48 = .ok (.aload_n 0, 1) := by decide +kernel
theorem dX2_init_49 : decode cX2_init 49 = .ok (.bipush 20, 2) := by decide +kernel
theorem dX2_init_51 : decode cX2_init 51 = .ok (.newarray .boolean, 2) := by decide +kernel
theorem dX2_init_53 : decode cX2_init 53 = .ok (.putfield 35, 3) := by decide +kernel
theorem dX2_init_56 : decode cX2_init 56 = .ok (.aload_n 0, 1) := by decide +kernel
theorem dX2_init_57 : decode cX2_init 57 = .ok (.iconst 0, 1) := by decide +kernel
theorem dX2_init_58 : decode cX2_init 58 = .ok (.putfield 39, 3) := by decide +kernel
theorem dX2_init_61 : decode cX2_init 61 = .ok (.return_, 1) := by decide +kernel
theorem dX2_append_0 : decode cX2_append 0 = .ok (.aload_n 0, 1) := by decide +kernel
theorem dX2_append_1 : decode cX2_append 1 = .ok (.getfield 15, 3) := by decide +kernel
theorem dX2_append_4 : decode cX2_append 4 = .ok (.ifCond .lt 15, 3) := by decide +kernel
theorem dX2_append_7 : decode cX2_append 7 = .ok (.aload_n 0, 1) := by decide +kernel
theorem dX2_append_8 : decode cX2_append 8 = .ok (.getfield 15, 3) := by decide +kernel
theorem dX2_append_11 : decode cX2_append 11 = .ok (.aload_n 0, 1) := by decide +kernel
theorem dX2_append_12 : decode cX2_append 12 = .ok (.getfield 9, 3) := by decide +kernel
theorem dX2_append_15 : decode cX2_append 15 = .ok (.arraylength, 1) := by decide +kernel
theorem dX2_append_16 : decode cX2_append 16 = .ok (.if_icmp .lt 5, 3) := by decide +kernel
theorem dX2_append_19 : decode cX2_append 19 = .ok (.iconst 0, 1) := by decide +kernel
theorem dX2_append_20 : decode cX2_append 20 = .ok (.ireturn, 1) := by decide +kernel
theorem dX2_append_21 : decode cX2_append 21 = .ok (.aload_n 0, 1) := by decide +kernel
theorem dX2_append_22 : decode cX2_append 22 = .ok (.getfield 9, 3) := by decide +kernel
theorem dX2_append_25 : decode cX2_append 25 = .ok (.aload_n 0, 1) := by decide +kernel
theorem dX2_append_26 : decode cX2_append 26 = .ok (.getfield 15, 3) := by decide +kernel
theorem dX2_append_29 : decode cX2_append 29 = .ok (.iload_n 1, 1) := by decide +kernel
theorem dX2_append_30 : decode cX2_append 30 = .ok (.castore, 1) := by decide +kernel
theorem dX2_append_31 : decode cX2_append 31 = .ok (.aload_n 0, 1) := by decide +kernel
theorem dX2_append_32 : decode cX2_append 32 = .ok (.dup, 1) := by decide +kernel
theorem dX2_append_33 : decode cX2_append 33 = .ok (.getfield 15, 3) := by decide +kernel
theorem dX2_append_36 : decode cX2_append 36 = .ok (.iconst 1, 1) := by decide +kernel
theorem dX2_append_37 : decode cX2_append 37 = .ok (.iadd, 1) := by decide +kernel
theorem dX2_append_38 : decode cX2_append 38 = .ok (.putfield 15, 3) := by decide +kernel
theorem dX2_append_41 : decode cX2_append 41 = .ok (.iconst 1, 1) := by decide +kernel
theorem dX2_append_42 : decode cX2_append 42 = .ok (.ireturn, 1) := by decide +kernel
theorem dX2_parse_0 : decode cX2_parse 0 = .ok (.aload_n 0, 1) := by decide +kernel
theorem dX2_parse_1 : decode cX2_parse 1 = .ok (.iconst 0, 1) := by decide +kernel
theorem dX2_parse_2 : decode cX2_parse 2 = .ok (.putfield 19, 3) := by decide +kernel
theorem dX2_parse_5 : decode cX2_parse 5 = .ok (.aload_n 0, 1) := by decide +kernel
theorem dX2_parse_6 : decode cX2_parse 6 = .ok (.iconst 0, 1) := by decide +kernel
theorem dX2_parse_7 : decode cX2_parse 7 = .ok (.putfield 39, 3) := by decide +kernel
theorem dX2_parse_10 : decode cX2_parse 10 = .ok (.aload_n 0, 1) := by decide +kernel
theorem dX2_parse_11 : decode cX2_parse 11 = .ok (.iconst 0, 1) := by decide +kernel
theorem dX2_parse_12 : decode cX2_parse 12 = .ok (.putfield 25, 3) := by decide +kernel
theorem dX2_parse_15 : decode cX2_parse 15 = .ok (.iconst 0, 1) := by decide +kernel
theorem dX2_parse_16 : decode cX2_parse 16 = .ok (.istore_n 1, 1) := by decide +kernel
theorem dX2_parse_17 : decode cX2_parse 17 = .ok (.iconst 1, 1) := by decide +kernel
theorem dX2_parse_18 : decode cX2_parse 18 = .ok (.istore_n 2, 1) := by decide +kernel
theorem dX2_parse_19 : decode cX2_parse 19 = .ok (.iconst 0, 1) := by decide +kernel
theorem dX2_parse_20 : decode cX2_parse 20 = .ok (.istore_n 3, 1) := by decide +kernel
theorem dX2_parse_21 : decode cX2_parse 21 = .ok (.iload_n 3, 1) := by decide +kernel
theorem dX2_parse_22 : decode cX2_parse 22 = .ok (.bipush 20, 2) := by decide +kernel
theorem dX2_parse_24 : decode cX2_parse 24 = .ok (.if_icmp .gt 64, 3) := by decide +kernel
theorem dX2_parse_27 : decode cX2_parse 27 = .ok (.iload_n 2, 1) := by decide +kernel
theorem dX2_parse_28 : decode cX2_parse 28 = .ok (.ifCond .eq 60, 3) := by decide +kernel
theorem dX2_parse_31 : decode cX2_parse 31 = .ok (.aload_n 0, 1) := by decide +kernel
theorem dX2_parse_32 : decode cX2_parse 32 = .ok (.iload_n 1, 1) := by decide +kernel
theorem dX2_parse_33 : decode cX2_parse 33 = .ok (.invokevirtual 42, 3) := by decide +kernel
theorem dX2_parse_36 : decode cX2_parse 36 = .ok (.aload_n 0, 1) := by decide +kernel
theorem dX2_parse_37 : decode cX2_parse 37 = .ok (.invokevirtual 46, 3) := by decide +kernel
theorem dX2_parse_40 : decode cX2_parse 40 = .ok (.bipush 45, 2) := by decide +kernel
theorem dX2_parse_42 : decode cX2_parse 42 = .ok (.if_icmp .ne 7, 3) := by decide +kernel
theorem dX2_parse_45 : decode cX2_parse 45 = .ok (.iconst 1, 1) := by decide +kernel
theorem dX2_parse_46 : decode cX2_parse 46 = .ok (.goto 4, 3) := by decide +kernel
theorem dX2_parse_49 : decode cX2_parse 49 = .ok (.iconst 0, 1) := by decide +kernel
theorem dX2_parse_50 : decode cX2_parse 50 = .ok (.istore_n 1, 1) := by decide +kernel
theorem dX2_parse_51 : decode cX2_parse 51 = .ok (.aload_n 0, 1) := by decide +kernel
theorem dX2_parse_52 : decode cX2_parse 52 = .ok (.getfield 25, 3) := by decide +kernel
theorem dX2_parse_55 : decode cX2_parse 55 = .ok (.ifCond .ne 25, 3) := by decide +kernel
theorem dX2_parse_58 : decode cX2_parse 58 = .ok (.aload_n 0, 1) := by decide +kernel
theorem dX2_parse_59 : decode cX2_parse 59 = .ok (.bipush 45, 2) := by decide +kernel
theorem dX2_parse_61 : decode cX2_parse 61 = .ok (.invokevirtual 50, 3) := by decide +kernel
theorem dX2_parse_64 : decode cX2_parse 64 = .ok (.ifCond .ne 12, 3) := by decide +kernel
theorem dX2_parse_67 : decode cX2_parse 67 = .ok (.aload_n 0, 1) := by decide +kernel
theorem dX2_parse_68 : decode cX2_parse 68 = .ok (.bipush 32, 2) := by decide +kernel
theorem dX2_parse_70 : decode cX2_parse 70 = .ok (.invokevirtual 50, 3) := by decide +kernel
theorem dX2_parse_73 : decode cX2_parse 73 = .ok (.ifCond .eq 7, 3) := by decide +kernel
theorem dX2_parse_76 : decode cX2_parse 76 = .ok (.iconst 1, 1) := by decide +kernel
theorem dX2_parse_77 : decode cX2_parse 77 = .ok (.goto 4, 3) := by decide +kernel
theorem dX2_parse_80 : decode cX2_parse 80 = .ok (.iconst 0, 1) := by decide +kernel
theorem dX2_parse_81 : decode cX2_parse 81 = .ok (.istore_n 2, 1) := by decide +kernel
theorem dX2_parse_82 : decode cX2_parse 82 = .ok (.iinc 3 1, 3) := by decide +kernel
theorem dX2_parse_85 : decode cX2_parse 85 = .ok (.goto (-64), 3) := by decide +kernel
theorem dX2_parse_88 : decode cX2_parse 88 = .ok (.aload_n 0, 1) := by decide +kernel
theorem dX2_parse_89 : decode cX2_parse 89 = .ok (.bipush 46, 2) := by decide +kernel
theorem dX2_parse_91 : decode cX2_parse 91 = .ok (.invokevirtual 54, 3) := by decide +kernel
theorem dX2_parse_94 : decode cX2_parse 94 = .ok (.aload_n 0, 1) := by decide +kernel
theorem dX2_parse_95 : decode cX2_parse 95 = .ok (.getfield 25, 3) := by decide +kernel
theorem dX2_parse_98 : decode cX2_parse 98 = .ok (.ifCond .ne 18, 3) := by decide +kernel
theorem dX2_parse_101 : decode cX2_parse 101 = .ok (.aload_n 0, 1) := by decide +kernel
theorem dX2_parse_102 : decode cX2_parse 102 = .ok (.getfield 19, 3) := by decide +kernel
theorem dX2_parse_105 : decode cX2_parse 105 = .ok (.aload_n 0, 1) := by decide +kernel
theorem dX2_parse_106 : decode cX2_parse 106 = .ok (.getfield 15, 3) := by decide +kernel
theorem dX2_parse_109 : decode cX2_parse 109 = .ok (.if_icmp .ge 7, 3) := by decide +kernel
theorem dX2_parse_112 : decode cX2_parse 112 = .ok (.aload_n 0, 1) := by decide +kernel
theorem dX2_parse_113 : decode cX2_parse 113 = .ok (.invokevirtual 58, 3) := by decide +kernel
theorem dX2_parse_116 : decode cX2_parse 116 = .ok (.aload_n 0, 1) := by decide +kernel
theorem dX2_parse_117 : decode cX2_parse 117 = .ok (.getfield 25, 3) := by decide +kernel
theorem dX2_parse_120 : decode cX2_parse 120 = .ok (.ireturn, 1) := by decide +kernel
theorem dX2_parsePoint_0 : decode cX2_parsePoint 0 = .ok (.aload_n 0, 1) := by decide +kernel
theorem dX2_parsePoint_1 : decode cX2_parsePoint 1 = .ok (.getfield 39, 3) := by decide +kernel
theorem dX2_parsePoint_4 : decode cX2_parsePoint 4 = .ok (.bipush 20, 2) := by decide +kernel
theorem dX2_parsePoint_6 : decode cX2_parsePoint 6 = .ok (.if_icmp .lt 22, 3) := by decide +kernel
theorem dX2_parsePoint_9 : decode cX2_parsePoint 9 = .ok (.aload_n 0, 1) := by decide +kernel
theorem dX2_parsePoint_10 : decode cX2_parsePoint 10 = .ok (.invokevirtual 46, 3) := by decide +kernel
theorem dX2_parsePoint_13 : decode cX2_parsePoint 13 = .ok (.invokestatic 61, 3) := by decide +kernel
theorem dX2_parsePoint_16 : decode cX2_parsePoint 16 = .ok (.ifCond .eq 12, 3) := by decide +kernel
theorem dX2_parsePoint_19 : decode cX2_parsePoint 19 = .ok (.aload_n 0, 1) := by decide +kernel
theorem dX2_parsePoint_20 : decode cX2_parsePoint 20 = .ok (.aload_n 0, 1) := by decide +kernel
theorem dX2_parsePoint_21 : decode cX2_parsePoint 21 = .ok (.getfield 19, 3) := by decide +kernel
theorem dX2_parsePoint_24 : decode cX2_parsePoint 24 = .ok (.iconst 4, 1) := by decide +kernel
theorem dX2_parsePoint_25 : decode cX2_parsePoint 25 = .ok (.invokevirtual 64, 3) := by decide +kernel
theorem dX2_parsePoint_28 : decode cX2_parsePoint 28 = .ok (.aload_n 0, 1) := by decide +kernel
theorem dX2_parsePoint_29 : decode cX2_parsePoint 29 = .ok (.invokevirtual 68, 3) := by decide +kernel
theorem dX2_parsePoint_32 : decode cX2_parsePoint 32 = .ok (.istore_n 2, 1) := by decide +kernel
theorem dX2_parsePoint_33 : decode cX2_parsePoint 33 = .ok (.aload_n 0, 1) := by decide +kernel
theorem dX2_parsePoint_34 : decode cX2_parsePoint 34 = .ok (.bipush 44, 2) := by decide +kernel
theorem dX2_parsePoint_36 : decode cX2_parsePoint 36 = .ok (.invokevirtual 54, 3) := by decide +kernel
theorem dX2_parsePoint_39 : decode cX2_parsePoint 39 = .ok (.aload_n 0, 1) := by decide +kernel
theorem dX2_parsePoint_40 : decode cX2_parsePoint 40 = .ok (.invokevirtual 68, 3) := by decide +kernel
theorem dX2_parsePoint_43 : decode cX2_parsePoint 43 = .ok (.istore_n 3, 1) := by decide +kernel
theorem dX2_parsePoint_44 : decode cX2_parsePoint 44 = .ok (.aload_n 0, 1) := by decide +kernel
theorem dX2_parsePoint_45 : decode cX2_parsePoint 45 = .ok (.getfield 25, 3) := by decide +kernel
theorem dX2_parsePoint_48 : decode cX2_parsePoint 48 = .ok (.ifCond .ne 86, 3) := by decide +kernel
theorem dX2_parsePoint_51 : decode cX2_parsePoint 51 = .ok (.aload_n 0, 1) := by decide +kernel
theorem dX2_parsePoint_52 : decode cX2_parsePoint 52 = .ok (.getfield 39, 3) := by decide +kernel
theorem dX2_parsePoint_55 : decode cX2_parsePoint 55 = .ok (.ifCond .lt 79, 3) := by decide +kernel
theorem dX2_parsePoint_58 : decode cX2_parsePoint 58 = .ok (.aload_n 0, 1) := by decide +kernel
theorem dX2_parsePoint_59 : decode cX2_parsePoint 59 = .ok (.getfield 39, 3) := by decide +kernel
theorem dX2_parsePoint_62 : decode cX2_parsePoint 62 = .ok (.aload_n 0, 1) := by decide +kernel
theorem dX2_parsePoint_63 : decode cX2_parsePoint 63 = .ok (.getfield 28, 3) := by decide +kernel
theorem dX2_parsePoint_66 : decode cX2_parsePoint 66 = .ok (.arraylength, 1) := by decide +kernel
theorem dX2_parsePoint_67 : decode cX2_parsePoint 67 = .ok (.if_icmp .ge 67, 3) := by decide +kernel
theorem dX2_parsePoint_70 : decode cX2_parsePoint 70 = .ok (.aload_n 0, 1) := by decide +kernel
theorem dX2_parsePoint_71 : decode cX2_parsePoint 71 = .ok (.getfield 39, 3) := by decide +kernel
theorem dX2_parsePoint_74 : decode cX2_parsePoint 74 = .ok (.aload_n 0, 1) := by decide +kernel
theorem dX2_parsePoint_75 : decode cX2_parsePoint 75 = .ok (.getfield 32, 3) := by decide +kernel
theorem dX2_parsePoint_78 : decode cX2_parsePoint 78 = .ok (.arraylength, 1) := by decide +kernel
theorem dX2_parsePoint_79 : decode cX2_parsePoint 79 = .ok (.if_icmp .ge 55, 3) := by decide +kernel
theorem dX2_parsePoint_82 : decode cX2_parsePoint 82 = .ok (.aload_n 0, 1) := by decide +kernel
theorem dX2_parsePoint_83 : decode cX2_parsePoint 83 = .ok (.getfield 39, 3) := by decide +kernel
theorem dX2_parsePoint_86 : decode cX2_parsePoint 86 = .ok (.aload_n 0, 1) := by decide +kernel
theorem dX2_parsePoint_87 : decode cX2_parsePoint 87 = .ok (.getfield 35, 3) := by decide +kernel
theorem dX2_parsePoint_90 : decode cX2_parsePoint 90 = .ok (.arraylength, 1) := by decide +kernel
theorem dX2_parsePoint_91 : decode cX2_parsePoint 91 = .ok (.if_icmp .ge 43, 3) := by decide +kernel
theorem dX2_parsePoint_94 : decode cX2_parsePoint 94 = .ok (.aload_n 0, 1) := by decide +kernel
theorem dX2_parsePoint_95 : decode cX2_parsePoint 95 = .ok (.getfield 28, 3) := by decide +kernel
theorem dX2_parsePoint_98 : decode cX2_parsePoint 98 = .ok (.aload_n 0, 1) := by decide +kernel
theorem dX2_parsePoint_99 : decode cX2_parsePoint 99 = .ok (.getfield 39, 3) := by decide +kernel
theorem dX2_parsePoint_102 : decode cX2_parsePoint 102 = .ok (.iload_n 2, 1) := by decide +kernel
theorem dX2_parsePoint_103 : decode cX2_parsePoint 103 = .ok (.iastore, 1) := by decide +kernel
theorem dX2_parsePoint_104 : decode cX2_parsePoint 104 = .ok (.aload_n 0, 1) := by decide +kernel
theorem dX2_parsePoint_105 : decode cX2_parsePoint 105 = .ok (.getfield 32, 3) := by decide +kernel
theorem dX2_parsePoint_108 : decode cX2_parsePoint 108 = .ok (.aload_n 0, 1) := by decide +kernel
theorem dX2_parsePoint_109 : decode cX2_parsePoint 109 = .ok (.getfield 39, 3) := by decide +kernel
theorem dX2_parsePoint_112 : decode cX2_parsePoint 112 = .ok (.iload_n 3, 1) := by decide +kernel
theorem dX2_parsePoint_113 : decode cX2_parsePoint 113 = .ok (.iastore, 1) := by decide +kernel
theorem dX2_parsePoint_114 : decode cX2_parsePoint 114 = .ok (.aload_n 0, 1) := by decide +kernel
theorem dX2_parsePoint_115 : decode cX2_parsePoint 115 = .ok (.getfield 35, 3) := by decide +kernel
theorem dX2_parsePoint_118 : decode cX2_parsePoint 118 = .ok (.aload_n 0, 1) := by decide +kernel
theorem dX2_parsePoint_119 : decode cX2_parsePoint 119 = .ok (.getfield 39, 3) := by decide +kernel
theorem dX2_parsePoint_122 : decode cX2_parsePoint 122 = .ok (.iload_n 1, 1) := by decide +kernel
theorem dX2_parsePoint_123 : decode cX2_parsePoint 123 = .ok (.bastore, 1) := by decide +kernel
theorem dX2_parsePoint_124 : decode cX2_parsePoint 124 = .ok (.aload_n 0, 1) := by decide +kernel
theorem dX2_parsePoint_125 : decode cX2_parsePoint 125 = .ok (.dup, 1) := by decide +kernel
theorem dX2_parsePoint_126 : decode cX2_parsePoint 126 = .ok (.getfield 39, 3) := by decide +kernel
theorem dX2_parsePoint_129 : decode cX2_parsePoint 129 = .ok (.iconst 1, 1) := by decide +kernel
theorem dX2_parsePoint_130 : decode cX2_parsePoint 130 = .ok (.iadd, 1) := by decide +kernel
theorem dX2_parsePoint_131 : decode cX2_parsePoint 131 = .ok (.putfield 39, 3) := by decide +kernel
theorem dX2_parsePoint_134 : decode cX2_parsePoint 134 = .ok (.return_, 1) := by decide +kernel
theorem dX2_parseNumber_0 : decode cX2_parseNumber 0 = .ok (.aload_n 0, 1) := by decide +kernel
theorem dX2_parseNumber_1 : decode cX2_parseNumber 1 = .ok (.getfield 19, 3) := by decide +kernel
theorem dX2_parseNumber_4 : decode cX2_parseNumber 4 = .ok (.istore_n 1, 1) := by decide +kernel
theorem dX2_parseNumber_5 : decode cX2_parseNumber 5 = .ok (.iconst 0, 1) := by decide +kernel
theorem dX2_parseNumber_6 : decode cX2_parseNumber 6 = .ok (.istore_n 2, 1) := by decide +kernel
theorem dX2_parseNumber_7 : decode cX2_parseNumber 7 = .ok (.iconst 0, 1) := by decide +kernel
theorem dX2_parseNumber_8 : decode cX2_parseNumber 8 = .ok (.istore_n 3, 1) := by decide +kernel
theorem dX2_parseNumber_9 : decode cX2_parseNumber 9 = .ok (.iload_n 3, 1) := by decide +kernel
theorem dX2_parseNumber_10 : decode cX2_parseNumber 10 = .ok (.iconst 4, 1) := by decide +kernel
theorem dX2_parseNumber_11 : decode cX2_parseNumber 11 = .ok (.if_icmp .ge 42, 3) := by decide +kernel
theorem dX2_parseNumber_14 : decode cX2_parseNumber 14 = .ok (.aload_n 0, 1) := by decide +kernel
theorem dX2_parseNumber_15 : decode cX2_parseNumber 15 = .ok (.invokevirtual 46, 3) := by decide +kernel
theorem dX2_parseNumber_18 : decode cX2_parseNumber 18 = .ok (.invokestatic 61, 3) := by decide +kernel
theorem dX2_parseNumber_21 : decode cX2_parseNumber 21 = .ok (.ifCond .eq 32, 3) := by decide +kernel
theorem dX2_parseNumber_24 : decode cX2_parseNumber 24 = .ok (.iload_n 2, 1) := by decide +kernel
theorem dX2_parseNumber_25 : decode cX2_parseNumber 25 = .ok (.bipush 10, 2) := by decide +kernel
theorem dX2_parseNumber_27 : decode cX2_parseNumber 27 = .ok (.imul, 1) := by decide +kernel
theorem dX2_parseNumber_28 : decode cX2_parseNumber 28 = .ok (.aload_n 0, 1) := by decide +kernel
theorem dX2_parseNumber_29 : decode cX2_parseNumber 29 = .ok (.invokevirtual 46, 3) := by decide +kernel
theorem dX2_parseNumber_32 : decode cX2_parseNumber 32 = .ok (.iadd, 1) := by decide +kernel
theorem dX2_parseNumber_33 : decode cX2_parseNumber 33 = .ok (.bipush 48, 2) := by decide +kernel
theorem dX2_parseNumber_35 : decode cX2_parseNumber 35 = .ok (.isub, 1) := by decide +kernel
theorem dX2_parseNumber_36 : decode cX2_parseNumber 36 = .ok (.istore_n 2, 1) := by decide +kernel
theorem dX2_parseNumber_37 : decode cX2_parseNumber 37 = .ok (.aload_n 0, 1) := by decide +kernel
theorem dX2_parseNumber_38 : decode cX2_parseNumber 38 = .ok (.dup, 1) := by decide +kernel
theorem dX2_parseNumber_39 : decode cX2_parseNumber 39 = .ok (.getfield 19, 3) := by decide +kernel
theorem dX2_parseNumber_42 : decode cX2_parseNumber 42 = .ok (.iconst 1, 1) := by decide +kernel
theorem dX2_parseNumber_43 : decode cX2_parseNumber 43 = .ok (.iadd, 1) := by decide +kernel
theorem dX2_parseNumber_44 : decode cX2_parseNumber 44 = .ok (.putfield 19, 3) := by decide +kernel
theorem dX2_parseNumber_47 : decode cX2_parseNumber 47 = .ok (.iinc 3 1, 3) := by decide +kernel
theorem dX2_parseNumber_50 : decode cX2_parseNumber 50 = .ok (.goto (-41), 3) := by decide +kernel
theorem dX2_parseNumber_53 : decode cX2_parseNumber 53 = .ok (.aload_n 0, 1) := by decide +kernel
theorem dX2_parseNumber_54 : decode cX2_parseNumber 54 = .ok (.getfield 19, 3) := by decide +kernel
theorem dX2_parseNumber_57 : decode cX2_parseNumber 57 = .ok (.iload_n 1, 1) := by decide +kernel
theorem dX2_parseNumber_58 : decode cX2_parseNumber 58 = .ok (.if_icmp .ne 10, 3) := by decide +kernel
theorem dX2_parseNumber_61 : decode cX2_parseNumber 61 = .ok (.aload_n 0, 1) := by decide +kernel
theorem dX2_parseNumber_62 : decode cX2_parseNumber 62 = .ok (.invokevirtual 58, 3) := by decide +kernel
theorem dX2_parseNumber_65 : decode cX2_parseNumber 65 = .ok (.goto 16, 3) := by decide +kernel
theorem dX2_parseNumber_68 : decode cX2_parseNumber 68 = .ok (.iload_n 2, 1) := by decide +kernel
theorem dX2_parseNumber_69 : decode cX2_parseNumber 69 = .ok (.sipush 1000, 3) := by decide +kernel
theorem dX2_parseNumber_72 : decode cX2_parseNumber 72 = .ok (.if_icmp .le 9, 3) := by decide +kernel
theorem dX2_parseNumber_75 : decode cX2_parseNumber 75 = .ok (.aload_n 0, 1) := by decide +kernel
theorem dX2_parseNumber_76 : decode cX2_parseNumber 76 = .ok (.iload_n 1, 1) := by decide +kernel
theorem dX2_parseNumber_77 : decode cX2_parseNumber 77 = .ok (.iconst 3, 1) := by decide +kernel
theorem dX2_parseNumber_78 : decode cX2_parseNumber 78 = .ok (.invokevirtual 64, 3) := by decide +kernel
theorem dX2_parseNumber_81 : decode cX2_parseNumber 81 = .ok (.iload_n 2, 1) := by decide +kernel
theorem dX2_parseNumber_82 : decode cX2_parseNumber 82 = .ok (.ireturn, 1) := by decide +kernel
theorem dX2_here_0 : decode cX2_here 0 = .ok (.aload_n 0, 1) := by decide +kernel
theorem dX2_here_1 : decode cX2_here 1 = .ok (.getfield 19, 3) := by decide +kernel
theorem dX2_here_4 : decode cX2_here 4 = .ok (.ifCond .lt 38, 3) := by decide +kernel
theorem dX2_here_7 : decode cX2_here 7 = .ok (.aload_n 0, 1) := by decide +kernel
theorem dX2_here_8 : decode cX2_here 8 = .ok (.getfield 19, 3) := by decide +kernel
theorem dX2_here_11 : decode cX2_here 11 = .ok (.aload_n 0, 1) := by decide +kernel
theorem dX2_here_12 : decode cX2_here 12 = .ok (.getfield 15, 3) := by decide +kernel
theorem dX2_here_15 : decode cX2_here 15 = .ok (.if_icmp .ge 27, 3) := by decide +kernel
theorem dX2_here_18 : decode cX2_here 18 = .ok (.aload_n 0, 1) := by decide +kernel
theorem dX2_here_19 : decode cX2_here 19 = .ok (.getfield 19, 3) := by decide +kernel
theorem dX2_here_22 : decode cX2_here 22 = .ok (.aload_n 0, 1) := by decide +kernel
theorem dX2_here_23 : decode cX2_here 23 = .ok (.getfield 9, 3) := by decide +kernel
theorem dX2_here_26 : decode cX2_here 26 = .ok (.arraylength, 1) := by decide +kernel
theorem dX2_here_27 : decode cX2_here 27 = .ok (.if_icmp .ge 15, 3) := by decide +kernel
theorem dX2_here_30 : decode cX2_here 30 = .ok (.aload_n 0, 1) := by decide +kernel
theorem dX2_here_31 : decode cX2_here 31 = .ok (.getfield 9, 3) := by decide +kernel
theorem dX2_here_34 : decode cX2_here 34 = .ok (.aload_n 0, 1) := by decide +kernel
theorem dX2_here_35 : decode cX2_here 35 = .ok (.getfield 19, 3) := by decide +kernel
theorem dX2_here_38 : decode cX2_here 38 = .ok (.caload, 1) := by decide +kernel
theorem dX2_here_39 : decode cX2_here 39 = .ok (.goto 4, 3) := by decide +kernel
theorem dX2_here_42 : decode cX2_here 42 = .ok (.iconst 0, 1) := by decide +kernel
theorem dX2_here_43 : decode cX2_here 43 = .ok (.ireturn, 1) := by decide +kernel
theorem dX2_isDigit_0 : decode cX2_isDigit 0 = .ok (.iload_n 0, 1) := by decide +kernel
theorem dX2_isDigit_1 : decode cX2_isDigit 1 = .ok (.bipush 48, 2) := by decide +kernel
theorem dX2_isDigit_3 : decode cX2_isDigit 3 = .ok (.if_icmp .lt 13, 3) := by decide +kernel
theorem dX2_isDigit_6 : decode cX2_isDigit 6 = .ok (.iload_n 0, 1) := by decide +kernel
theorem dX2_isDigit_7 : decode cX2_isDigit 7 = .ok (.bipush 57, 2) := by decide +kernel
theorem dX2_isDigit_9 : decode cX2_isDigit 9 = .ok (.if_icmp .gt 7, 3) := by decide +kernel
theorem dX2_isDigit_12 : decode cX2_isDigit 12 = .ok (.iconst 1, 1) := by decide +kernel
theorem dX2_isDigit_13 : decode cX2_isDigit 13 = .ok (.goto 4, 3) := by decide +kernel
theorem dX2_isDigit_16 : decode cX2_isDigit 16 = .ok (.iconst 0, 1) := by decide +kernel
theorem dX2_isDigit_17 : decode cX2_isDigit 17 = .ok (.ireturn, 1) := by decide +kernel
theorem dX2_accept_0 : decode cX2_accept 0 = .ok (.aload_n 0, 1) := by decide +kernel
theorem dX2_accept_1 : decode cX2_accept 1 = .ok (.invokevirtual 46, 3) := by decide +kernel
theorem dX2_accept_4 : decode cX2_accept 4 = .ok (.iload_n 1, 1) := by decide +kernel
theorem dX2_accept_5 : decode cX2_accept 5 = .ok (.if_icmp .eq 5, 3) := by decide +kernel
theorem dX2_accept_8 : decode cX2_accept 8 = .ok (.iconst 0, 1) := by decide +kernel
theorem dX2_accept_9 : decode cX2_accept 9 = .ok (.ireturn, 1) := by decide +kernel
theorem dX2_accept_10 : decode cX2_accept 10 = .ok (.aload_n 0, 1) := by decide +kernel
theorem dX2_accept_11 : decode cX2_accept 11 = .ok (.dup, 1) := by decide +kernel
theorem dX2_accept_12 : decode cX2_accept 12 = .ok (.getfield 19, 3) := by decide +kernel
theorem dX2_accept_15 : decode cX2_accept 15 = .ok (.iconst 1, 1) := by decide +kernel
theorem dX2_accept_16 : decode cX2_accept 16 = .ok (.iadd, 1) := by decide +kernel
theorem dX2_accept_17 : decode cX2_accept 17 = .ok (.putfield 19, 3) := by decide +kernel
theorem dX2_accept_20 : decode cX2_accept 20 = .ok (.iconst 1, 1) := by decide +kernel
theorem dX2_accept_21 : decode cX2_accept 21 = .ok (.ireturn, 1) := by decide +kernel
theorem dX2_expect_0 : decode cX2_expect 0 = .ok (.aload_n 0, 1) := by decide +kernel
theorem dX2_expect_1 : decode cX2_expect 1 = .ok (.getfield 25, 3) := by decide +kernel
theorem dX2_expect_4 : decode cX2_expect 4 = .ok (.ifCond .ne 15, 3) := by decide +kernel
theorem dX2_expect_7 : decode cX2_expect 7 = .ok (.aload_n 0, 1) := by decide +kernel
theorem dX2_expect_8 : decode cX2_expect 8 = .ok (.iload_n 1, 1) := by decide +kernel
theorem dX2_expect_9 : decode cX2_expect 9 = .ok (.invokevirtual 50, 3) := by decide +kernel
theorem dX2_expect_12 : decode cX2_expect 12 = .ok (.ifCond .ne 7, 3) := by decide +kernel
theorem dX2_expect_15 : decode cX2_expect 15 = .ok (.aload_n 0, 1) := by decide +kernel
theorem dX2_expect_16 : decode cX2_expect 16 = .ok (.invokevirtual 58, 3) := by decide +kernel
theorem dX2_expect_19 : decode cX2_expect 19 = .ok (.return_, 1) := by decide +kernel
theorem dX2_failHere_0 : decode cX2_failHere 0 = .ok (.aload_n 0, 1) := by decide +kernel
theorem dX2_failHere_1 : decode cX2_failHere 1 = .ok (.aload_n 0, 1) := by decide +kernel
theorem dX2_failHere_2 : decode cX2_failHere 2 = .ok (.getfield 19, 3) := by decide +kernel
theorem dX2_failHere_5 : decode cX2_failHere 5 = .ok (.aload_n 0, 1) := by decide +kernel
theorem dX2_failHere_6 : decode cX2_failHere 6 = .ok (.getfield 19, 3) := by decide +kernel
theorem dX2_failHere_9 : decode cX2_failHere 9 = .ok (.aload_n 0, 1) := by decide +kernel
theorem dX2_failHere_10 : decode cX2_failHere 10 = .ok (.getfield 15, 3) := by decide +kernel
theorem dX2_failHere_13 : decode cX2_failHere 13 = .ok (.if_icmp .ge 7, 3) := by decide +kernel
theorem dX2_failHere_16 : decode cX2_failHere 16 = .ok (.iconst 1, 1) := by decide +kernel
theorem dX2_failHere_17 : decode cX2_failHere 17 = .ok (.goto 4, 3) := by decide +kernel
theorem dX2_failHere_20 : decode cX2_failHere 20 = .ok (.iconst 2, 1) := by decide +kernel
theorem dX2_failHere_21 : decode cX2_failHere 21 = .ok (.invokevirtual 64, 3) := by decide +kernel
theorem dX2_failHere_24 : decode cX2_failHere 24 = .ok (.return_, 1) := by decide +kernel
theorem dX2_fail_0 : decode cX2_fail 0 = .ok (.aload_n 0, 1) := by decide +kernel
theorem dX2_fail_1 : decode cX2_fail 1 = .ok (.getfield 25, 3) := by decide +kernel
theorem dX2_fail_4 : decode cX2_fail 4 = .ok (.ifCond .ne 13, 3) := by decide +kernel
theorem dX2_fail_7 : decode cX2_fail 7 = .ok (.aload_n 0, 1) := by decide +kernel
theorem dX2_fail_8 : decode cX2_fail 8 = .ok (.iload_n 1, 1) := by decide +kernel
theorem dX2_fail_9 : decode cX2_fail 9 = .ok (.putfield 22, 3) := by decide +kernel
theorem dX2_fail_12 : decode cX2_fail 12 = .ok (.aload_n 0, 1) := by decide +kernel
theorem dX2_fail_13 : decode cX2_fail 13 = .ok (.iload_n 2, 1) := by decide +kernel
theorem dX2_fail_14 : decode cX2_fail 14 = .ok (.putfield 25, 3) := by decide +kernel
theorem dX2_fail_17 : decode cX2_fail 17 = .ok (.return_, 1) := by decide +kernel
theorem dX2_addPointsTo_0 : decode cX2_addPointsTo 0 = .ok (.iconst 0, 1) := by decide +kernel
theorem dX2_addPointsTo_1 : decode cX2_addPointsTo 1 = .ok (.istore_n 2, 1) := by decide +kernel
theorem dX2_addPointsTo_2 : decode cX2_addPointsTo 2 = .ok (.iload_n 2, 1) := by decide +kernel
theorem dX2_addPointsTo_3 : decode cX2_addPointsTo 3 = .ok (.aload_n 0, 1) := by decide +kernel
theorem dX2_addPointsTo_4 : decode cX2_addPointsTo 4 = .ok (.getfield 39, 3) := by decide +kernel
theorem dX2_addPointsTo_7 : decode cX2_addPointsTo 7 = .ok (.if_icmp .ge 68, 3) := by decide +kernel
theorem dX2_addPointsTo_10 : decode cX2_addPointsTo 10 = .ok (.iload_n 2, 1) := by decide +kernel
theorem dX2_addPointsTo_11 : decode cX2_addPointsTo 11 = .ok (.aload_n 0, 1) := by decide +kernel
theorem dX2_addPointsTo_12 : decode cX2_addPointsTo 12 = .ok (.getfield 28, 3) := by decide +kernel
theorem dX2_addPointsTo_15 : decode cX2_addPointsTo 15 = .ok (.arraylength, 1) := by decide +kernel
theorem dX2_addPointsTo_16 : decode cX2_addPointsTo 16 = .ok (.if_icmp .ge 59, 3) := by decide +kernel
theorem dX2_addPointsTo_19 : decode cX2_addPointsTo 19 = .ok (.iload_n 2, 1) := by decide +kernel
theorem dX2_addPointsTo_20 : decode cX2_addPointsTo 20 = .ok (.aload_n 0, 1) := by decide +kernel
theorem dX2_addPointsTo_21 : decode cX2_addPointsTo 21 = .ok (.getfield 32, 3) := by decide +kernel
theorem dX2_addPointsTo_24 : decode cX2_addPointsTo 24 = .ok (.arraylength, 1) := by decide +kernel
theorem dX2_addPointsTo_25 : decode cX2_addPointsTo 25 = .ok (.if_icmp .ge 50, 3) := by decide +kernel
theorem dX2_addPointsTo_28 : decode cX2_addPointsTo 28 = .ok (.iload_n 2, 1) := by decide +kernel
theorem dX2_addPointsTo_29 : decode cX2_addPointsTo 29 = .ok (.aload_n 0, 1) := by decide +kernel
theorem dX2_addPointsTo_30 : decode cX2_addPointsTo 30 = .ok (.getfield 35, 3) := by decide +kernel
theorem dX2_addPointsTo_33 : decode cX2_addPointsTo 33 = .ok (.arraylength, 1) := by decide +kernel
theorem dX2_addPointsTo_34 : decode cX2_addPointsTo 34 = .ok (.if_icmp .ge 41, 3) := by decide +kernel
theorem dX2_addPointsTo_37 : decode cX2_addPointsTo 37 = .ok (.aload_n 1, 1) := by decide +kernel
theorem dX2_addPointsTo_38 : decode cX2_addPointsTo 38 = .ok (.aload_n 0, 1) := by decide +kernel
theorem dX2_addPointsTo_39 : decode cX2_addPointsTo 39 = .ok (.getfield 28, 3) := by decide +kernel
theorem dX2_addPointsTo_42 : decode cX2_addPointsTo 42 = .ok (.iload_n 2, 1) := by decide +kernel
theorem dX2_addPointsTo_43 : decode cX2_addPointsTo 43 = .ok (.iaload, 1) := by decide +kernel
theorem dX2_addPointsTo_44 : decode cX2_addPointsTo 44 = .ok (.i2l, 1) := by decide +kernel
theorem dX2_addPointsTo_45 : decode cX2_addPointsTo 45 = .ok (.aload_n 0, 1) := by decide +kernel
theorem dX2_addPointsTo_46 : decode cX2_addPointsTo 46 = .ok (.getfield 32, 3) := by decide +kernel
theorem dX2_addPointsTo_49 : decode cX2_addPointsTo 49 = .ok (.iload_n 2, 1) := by decide +kernel
theorem dX2_addPointsTo_50 : decode cX2_addPointsTo 50 = .ok (.iaload, 1) := by decide +kernel
theorem dX2_addPointsTo_51 : decode cX2_addPointsTo 51 = .ok (.i2l, 1) := by decide +kernel
theorem dX2_addPointsTo_52 : decode cX2_addPointsTo 52 = .ok (.aload_n 0, 1) := by decide +kernel
theorem dX2_addPointsTo_53 : decode cX2_addPointsTo 53 = .ok (.getfield 35, 3) := by decide +kernel
theorem dX2_addPointsTo_56 : decode cX2_addPointsTo 56 = .ok (.iload_n 2, 1) := by decide +kernel
theorem dX2_addPointsTo_57 : decode cX2_addPointsTo 57 = .ok (.baload, 1) := by decide +kernel
theorem dX2_addPointsTo_58 : decode cX2_addPointsTo 58 = .ok (.ifCond .eq 7, 3) := by decide +kernel
theorem dX2_addPointsTo_61 : decode cX2_addPointsTo 61 = .ok (.iconst 1, 1) := by decide +kernel
theorem dX2_addPointsTo_62 : decode cX2_addPointsTo 62 = .ok (.goto 4, 3) := by decide +kernel
theorem dX2_addPointsTo_65 : decode cX2_addPointsTo 65 = .ok (.iconst (-1), 1) := by decide +kernel
theorem dX2_addPointsTo_66 : decode cX2_addPointsTo 66 = .ok (.invokevirtual 72, 3) := by decide +kernel
theorem dX2_addPointsTo_69 : decode cX2_addPointsTo 69 = .ok (.iinc 2 1, 3) := by decide +kernel
theorem dX2_addPointsTo_72 : decode cX2_addPointsTo 72 = .ok (.goto (-70), 3) := by decide +kernel
theorem dX2_addPointsTo_75 : decode cX2_addPointsTo 75 = .ok (.return_, 1) := by decide +kernel
end
section
theorem dX3_init_0 : decode cX3_init 0 = .ok (.aload_n 0, 1) := by decide +kernel
theorem dX3_init_1 : decode cX3_init 1 = .ok (.invokespecial 1, 3) := by decide +kernel
theorem dX3_init_4 : decode cX3_init 4 = .ok (.aload_n 0, 1) := by decide +kernel
theorem dX3_init_5 : decode cX3_init 5 = .ok (.new 7, 3) := by decide +kernel
theorem dX3_init_8 : decode cX3_init 8 = .ok (.dup, 1) := by decide +kernel
theorem dX3_init_9 : decode cX3_init 9 = .ok (.invokespecial 9, 3) := by decide +kernel
theorem dX3_init_12 : decode cX3_init 12 = .ok (.putfield 10, 3) := by decide +kernel
theorem dX3_init_15 : decode cX3_init 15 = .ok (.aload_n 0, 1) := by decide +kernel
theorem dX3_init_16 : decode cX3_init 16 = .ok (.iconst 4, 1) := by decide +kernel
theorem dX3_init_17 : decode cX3_init 17 = .ok (.anewarray 7, 3) := by decide +kernel
theorem dX3_init_20 : decode cX3_init 20 = .ok (.putfield 16, 3) := by decide +kernel
theorem dX3_init_23 : decode cX3_init 23 = .ok (.aload_n 0, 1) := by decide +kernel
theorem dX3_init_24 : decode cX3_init 24 = .ok (.iconst 0, 1) := by decide +kernel
theorem dX3_init_25 : decode cX3_init 25 = .ok (.putfield 20, 3) := by decide +kernel
theorem dX3_init_28 : decode cX3_init 28 = .ok (.aload_n 0, 1) := by decide +kernel
theorem dX3_init_29 : decode cX3_init 29 = .ok (.new 24, 3) := by decide +kernel
theorem dX3_init_32 : decode cX3_init 32 = .ok (.dup, 1) := by decide +kernel
theorem dX3_init_33 : decode cX3_init 33 = .ok (.invokespecial 26, 3) := by decide +kernel
theorem dX3_init_36 : decode cX3_init 36 = .ok (.putfield 27, 3) := by decide +kernel
theorem dX3_init_39 : decode cX3_init 39 = .ok (.iconst 0, 1) := by decide +kernel
theorem dX3_init_40 : decode cX3_init 40 = .ok (.istore_n 1, 1) := by decide +kernel
theorem dX3_init_41 : decode cX3_init 41 = .ok (.iload_n 1, 1) := by decide +kernel
theorem dX3_init_42 : decode cX3_init 42 = .ok (.aload_n 0, 1) := by decide +kernel
theorem dX3_init_43 : decode cX3_init 43 = .ok (.getfield 16, 3) := by decide +kernel
theorem dX3_init_46 : decode cX3_init 46 = .ok (.arraylength, 1) := by decide +kernel
theorem dX3_init_47 : decode cX3_init 47 = .ok (.if_icmp .ge 22, 3) := by decide +kernel
theorem dX3_init_50 : decode cX3_init 50 = .ok (.aload_n 0, 1) := by decide +kernel
theorem dX3_init_51 : decode cX3_init 51 = .ok (.getfield 16, 3) := by decide +kernel
theorem dX3_init_54 : decode cX3_init 54 = .ok (.iload_n 1, 1) := by decide +kernel
theorem dX3_init_55 : decode cX3_init 55 = .ok (.new 7, 3) := by decide +kernel
theorem dX3_init_58 : decode cX3_init 58 = .ok (.dup, 1) := by decide +kernel
theorem dX3_init_59 : decode cX3_init 59 = .ok (.invokespecial 9, 3) := by decide +kernel
theorem dX3_init_62 : decode cX3_init 62 = .ok (.aastore, 1) := by decide +kernel
theorem dX3_init_63 : decode cX3_init 63 = .ok (.iinc 1 1, 3) := by decide +kernel
theorem dX3_init_66 : decode cX3_init 66 = .ok (.goto (-25), 3) := by decide +kernel
theorem dX3_init_69 : decode cX3_init 69 = .ok (.return_, 1) := by decide +kernel
theorem dX3_arm_0 : decode cX3_arm 0 = .ok (.iload_n 1, 1) := by decide +kernel
theorem dX3_arm_1 : decode cX3_arm 1 = .ok (.iconst 1, 1) := by decide +kernel
theorem dX3_arm_2 : decode cX3_arm 2 = .ok (.bipush 20, 2) := by decide +kernel
theorem dX3_arm_4 : decode cX3_arm 4 = .ok (.invokestatic 31, 3) := by decide +kernel
theorem dX3_arm_7 : decode cX3_arm 7 = .ok (.ifCond .eq 13, 3) := by decide +kernel
theorem dX3_arm_10 : decode cX3_arm 10 = .ok (.iload_n 2, 1) := by decide +kernel
theorem dX3_arm_11 : decode cX3_arm 11 = .ok (.iconst 1, 1) := by decide +kernel
theorem dX3_arm_12 : decode cX3_arm 12 = .ok (.bipush 20, 2) := by decide +kernel
theorem dX3_arm_14 : decode cX3_arm 14 = .ok (.invokestatic 31, 3) := by decide +kernel
theorem dX3_arm_17 : decode cX3_arm 17 = .ok (.ifCond .ne 6, 3) := by decide +kernel
theorem dX3_arm_20 : decode cX3_arm 20 = .ok (.ldc 35, 2) := by decide +kernel
theorem dX3_arm_22 : decode cX3_arm 22 = .ok (.ireturn, 1) := by decide +kernel
theorem dX3_arm_23 : decode cX3_arm 23 = .ok (.bipush 100, 2) := by decide +kernel
theorem dX3_arm_25 : decode cX3_arm 25 = .ok (.aload_n 0, 1) := by decide +kernel
theorem dX3_arm_26 : decode cX3_arm 26 = .ok (.getfield 10, 3) := by decide +kernel
theorem dX3_arm_29 : decode cX3_arm 29 = .ok (.getfield 36, 3) := by decide +kernel
theorem dX3_arm_32 : decode cX3_arm 32 = .ok (.imul, 1) := by decide +kernel
theorem dX3_arm_33 : decode cX3_arm 33 = .ok (.aload_n 0, 1) := by decide +kernel
theorem dX3_arm_34 : decode cX3_arm 34 = .ok (.getfield 10, 3) := by decide +kernel
theorem dX3_arm_37 : decode cX3_arm 37 = .ok (.getfield 39, 3) := by decide +kernel
theorem dX3_arm_40 : decode cX3_arm 40 = .ok (.iadd, 1) := by decide +kernel
theorem dX3_arm_41 : decode cX3_arm 41 = .ok (.istore_n 3, 1) := by decide +kernel
theorem dX3_arm_42 : decode cX3_arm 42 = .ok (.aload_n 0, 1) := by decide +kernel
theorem dX3_arm_43 : decode cX3_arm 43 = .ok (.invokevirtual 42, 3) := by decide +kernel
theorem dX3_arm_46 : decode cX3_arm 46 = .ok (.aload_n 0, 1) := by decide +kernel
theorem dX3_arm_47 : decode cX3_arm 47 = .ok (.getfield 10, 3) := by decide +kernel
theorem dX3_arm_50 : decode cX3_arm 50 = .ok (.iload_n 1, 1) := by decide +kernel
theorem dX3_arm_51 : decode cX3_arm 51 = .ok (.putfield 36, 3) := by decide +kernel
theorem dX3_arm_54 : decode cX3_arm 54 = .ok (.aload_n 0, 1) := by decide +kernel
theorem dX3_arm_55 : decode cX3_arm 55 = .ok (.getfield 10, 3) := by decide +kernel
theorem dX3_arm_58 : decode cX3_arm 58 = .ok (.iload_n 2, 1) := by decide +kernel
theorem dX3_arm_59 : decode cX3_arm 59 = .ok (.putfield 39, 3) := by decide +kernel
theorem dX3_arm_62 : decode cX3_arm 62 = .ok (.iload_n 3, 1) := by decide +kernel
theorem dX3_arm_63 : decode cX3_arm 63 = .ok (.ireturn, 1) := by decide +kernel
theorem dX3_pivot_0 : decode cX3_pivot 0 = .ok (.iload_n 1, 1) := by decide +kernel
theorem dX3_pivot_1 : decode cX3_pivot 1 = .ok (.iconst 0, 1) := by decide +kernel
theorem dX3_pivot_2 : decode cX3_pivot 2 = .ok (.sipush 1000, 3) := by decide +kernel
theorem dX3_pivot_5 : decode cX3_pivot 5 = .ok (.invokestatic 31, 3) := by decide +kernel
theorem dX3_pivot_8 : decode cX3_pivot 8 = .ok (.ifCond .eq 14, 3) := by decide +kernel
theorem dX3_pivot_11 : decode cX3_pivot 11 = .ok (.iload_n 2, 1) := by decide +kernel
theorem dX3_pivot_12 : decode cX3_pivot 12 = .ok (.iconst 0, 1) := by decide +kernel
theorem dX3_pivot_13 : decode cX3_pivot 13 = .ok (.sipush 1000, 3) := by decide +kernel
theorem dX3_pivot_16 : decode cX3_pivot 16 = .ok (.invokestatic 31, 3) := by decide +kernel
theorem dX3_pivot_19 : decode cX3_pivot 19 = .ok (.ifCond .ne 6, 3) := by decide +kernel
theorem dX3_pivot_22 : decode cX3_pivot 22 = .ok (.ldc 35, 2) := by decide +kernel
theorem dX3_pivot_24 : decode cX3_pivot 24 = .ok (.ireturn, 1) := by decide +kernel
theorem dX3_pivot_25 : decode cX3_pivot 25 = .ok (.sipush 10000, 3) := by decide +kernel
theorem dX3_pivot_28 : decode cX3_pivot 28 = .ok (.aload_n 0, 1) := by decide +kernel
theorem dX3_pivot_29 : decode cX3_pivot 29 = .ok (.getfield 10, 3) := by decide +kernel
theorem dX3_pivot_32 : decode cX3_pivot 32 = .ok (.getfield 45, 3) := by decide +kernel
theorem dX3_pivot_35 : decode cX3_pivot 35 = .ok (.imul, 1) := by decide +kernel
theorem dX3_pivot_36 : decode cX3_pivot 36 = .ok (.aload_n 0, 1) := by decide +kernel
theorem dX3_pivot_37 : decode cX3_pivot 37 = .ok (.getfield 10, 3) := by decide +kernel
theorem dX3_pivot_40 : decode cX3_pivot 40 = .ok (.getfield 48, 3) := by decide +kernel
theorem dX3_pivot_43 : decode cX3_pivot 43 = .ok (.iadd, 1) := by decide +kernel
theorem dX3_pivot_44 : decode cX3_pivot 44 = .ok (.istore_n 3, 1) := by decide +kernel
theorem dX3_pivot_45 : decode cX3_pivot 45 = .ok (.aload_n 0, 1) := by decide +kernel
theorem dX3_pivot_46 : decode cX3_pivot 46 = .ok (.invokevirtual 42, 3) := by decide +kernel
theorem dX3_pivot_49 : decode cX3_pivot 49 = .ok (.aload_n 0, 1) := by decide +kernel
theorem dX3_pivot_50 : decode cX3_pivot 50 = .ok (.getfield 10, 3) := by decide +kernel
theorem dX3_pivot_53 : decode cX3_pivot 53 = .ok (.iload_n 1, 1) := by decide +kernel
theorem dX3_pivot_54 : decode cX3_pivot 54 = .ok (.putfield 45, 3) := by decide +kernel
theorem dX3_pivot_57 : decode cX3_pivot 57 = .ok (.aload_n 0, 1) := by decide +kernel
theorem dX3_pivot_58 : decode cX3_pivot 58 = .ok (.getfield 10, 3) := by decide +kernel
theorem dX3_pivot_61 : decode cX3_pivot 61 = .ok (.iload_n 2, 1) := by decide +kernel
theorem dX3_pivot_62 : decode cX3_pivot 62 = .ok (.putfield 48, 3) := by decide +kernel
theorem dX3_pivot_65 : decode cX3_pivot 65 = .ok (.iload_n 3, 1) := by decide +kernel
theorem dX3_pivot_66 : decode cX3_pivot 66 = .ok (.ireturn, 1) := by decide +kernel
theorem dX3_set_0 : decode cX3_set 0 = .ok (.iload_n 1, 1) := by decide +kernel
theorem dX3_set_1 : decode cX3_set 1 = .ok (.ifCond .lt 36, 3) := by decide +kernel
theorem dX3_set_4 : decode cX3_set 4 = .ok (.iload_n 1, 1) := by decide +kernel
theorem dX3_set_5 : decode cX3_set 5 = .ok (.getstatic 51, 3) := by decide +kernel
theorem dX3_set_8 : decode cX3_set 8 = .ok (.arraylength, 1) := by decide +kernel
theorem dX3_set_9 : decode cX3_set 9 = .ok (.if_icmp .ge 28, 3) := by decide +kernel
theorem dX3_set_12 : decode cX3_set 12 = .ok (.iload_n 1, 1) := by decide +kernel
theorem dX3_set_13 : decode cX3_set 13 = .ok (.getstatic 55, 3) := by decide +kernel
theorem dX3_set_16 : decode cX3_set 16 = .ok (.arraylength, 1) := by decide +kernel
theorem dX3_set_17 : decode cX3_set 17 = .ok (.if_icmp .ge 20, 3) := by decide +kernel
theorem dX3_set_20 : decode cX3_set 20 = .ok (.iload_n 2, 1) := by decide +kernel
theorem dX3_set_21 : decode cX3_set 21 = .ok (.getstatic 51, 3) := by decide +kernel
theorem dX3_set_24 : decode cX3_set 24 = .ok (.iload_n 1, 1) := by decide +kernel
theorem dX3_set_25 : decode cX3_set 25 = .ok (.iaload, 1) := by decide +kernel
theorem dX3_set_26 : decode cX3_set 26 = .ok (.getstatic 55, 3) := by decide +kernel
theorem dX3_set_29 : decode cX3_set 29 = .ok (.iload_n 1, 1) := by decide +kernel
theorem dX3_set_30 : decode cX3_set 30 = .ok (.iaload, 1) := by decide +kernel
theorem dX3_set_31 : decode cX3_set 31 = .ok (.invokestatic 31, 3) := by decide +kernel
theorem dX3_set_34 : decode cX3_set 34 = .ok (.ifCond .ne 6, 3) := by decide +kernel
theorem dX3_set_37 : decode cX3_set 37 = .ok (.ldc 35, 2) := by decide +kernel
theorem dX3_set_39 : decode cX3_set 39 = .ok (.ireturn, 1) := by decide +kernel
theorem dX3_set_40 : decode cX3_set 40 = .ok (.aload_n 0, 1) := by decide +kernel
theorem dX3_set_41 : decode cX3_set 41 = .ok (.getfield 10, 3) := by decide +kernel
theorem dX3_set_44 : decode cX3_set 44 = .ok (.iload_n 1, 1) := by decide +kernel
theorem dX3_set_45 : decode cX3_set 45 = .ok (.invokevirtual 58, 3) := by decide +kernel
theorem dX3_set_48 : decode cX3_set 48 = .ok (.istore_n 3, 1) := by decide +kernel
theorem dX3_set_49 : decode cX3_set 49 = .ok (.aload_n 0, 1) := by decide +kernel
theorem dX3_set_50 : decode cX3_set 50 = .ok (.invokevirtual 42, 3) := by decide +kernel
theorem dX3_set_53 : decode cX3_set 53 = .ok (.aload_n 0, 1) := by decide +kernel
theorem dX3_set_54 : decode cX3_set 54 = .ok (.getfield 10, 3) := by decide +kernel
theorem dX3_set_57 : decode cX3_set 57 = .ok (.iload_n 1, 1) := by decide +kernel
theorem dX3_set_58 : decode cX3_set 58 = .ok (.iload_n 2, 1) := by decide +kernel
theorem dX3_set_59 : decode cX3_set 59 = .ok (.invokevirtual 62, 3) := by decide +kernel
theorem dX3_set_62 : decode cX3_set 62 = .ok (.iload_n 3, 1) := by decide +kernel
theorem dX3_set_63 : decode cX3_set 63 = .ok (.ireturn, 1) := by decide +kernel
theorem dX3_count_0 : decode cX3_count 0 = .ok (.iload_n 1, 1) := by decide +kernel
theorem dX3_count_1 : decode cX3_count 1 = .ok (.tableswitch 241 0 17 #[87, 95, 103, 111, 119, 127, 136, 145, 154, 163, 172, 180, 196, 204, 212, 220, 228, 233], 87) := by decide +kernel
theorem dX3_count_88 : decode cX3_count 88 = .ok (.aload_n 0, 1) := by decide +kernel
theorem dX3_count_89 : decode cX3_count 89 = .ok (.getfield 10, 3) := by decide +kernel
theorem dX3_count_92 : decode cX3_count 92 = .ok (.getfield 66, 3) := by decide +kernel
theorem dX3_count_95 : decode cX3_count 95 = .ok (.ireturn, 1) := by decide +kernel
theorem dX3_count_96 : decode cX3_count 96 = .ok (.aload_n 0, 1) := by decide +kernel
theorem dX3_count_97 : decode cX3_count 97 = .ok (.getfield 10, 3) := by decide +kernel
theorem dX3_count_100 : decode cX3_count 100 = .ok (.getfield 36, 3) := by decide +kernel
theorem dX3_count_103 : decode cX3_count 103 = .ok (.ireturn, 1) := by decide +kernel
theorem dX3_count_104 : decode cX3_count 104 = .ok (.aload_n 0, 1) := by decide +kernel
theorem dX3_count_105 : decode cX3_count 105 = .ok (.getfield 10, 3) := by decide +kernel
theorem dX3_count_108 : decode cX3_count 108 = .ok (.getfield 39, 3) := by decide +kernel
theorem dX3_count_111 : decode cX3_count 111 = .ok (.ireturn, 1) := by decide +kernel
theorem dX3_count_112 : decode cX3_count 112 = .ok (.aload_n 0, 1) := by decide +kernel
theorem dX3_count_113 : decode cX3_count 113 = .ok (.getfield 10, 3) := by decide +kernel
theorem dX3_count_116 : decode cX3_count 116 = .ok (.getfield 45, 3) := by decide +kernel
theorem dX3_count_119 : decode cX3_count 119 = .ok (.ireturn, 1) := by decide +kernel
theorem dX3_count_120 : decode cX3_count 120 = .ok (.aload_n 0, 1) := by decide +kernel
theorem dX3_count_121 : decode cX3_count 121 = .ok (.getfield 10, 3) := by decide +kernel
theorem dX3_count_124 : decode cX3_count 124 = .ok (.getfield 48, 3) := by decide +kernel
theorem dX3_count_127 : decode cX3_count 127 = .ok (.ireturn, 1) := by decide +kernel
theorem dX3_count_128 : decode cX3_count 128 = .ok (.aload_n 0, 1) := by decide +kernel
theorem dX3_count_129 : decode cX3_count 129 = .ok (.getfield 10, 3) := by decide +kernel
theorem dX3_count_132 : decode cX3_count 132 = .ok (.iconst 0, 1) := by decide +kernel
theorem dX3_count_133 : decode cX3_count 133 = .ok (.invokevirtual 58, 3) := by decide +kernel
theorem dX3_count_136 : decode cX3_count 136 = .ok (.ireturn, 1) := by decide +kernel
theorem dX3_count_137 : decode cX3_count 137 = .ok (.aload_n 0, 1) := by decide +kernel
theorem dX3_count_138 : decode cX3_count 138 = .ok (.getfield 10, 3) := by decide +kernel
theorem dX3_count_141 : decode cX3_count 141 = .ok (.iconst 1, 1) := by decide +kernel
theorem dX3_count_142 : decode cX3_count 142 = .ok (.invokevirtual 58, 3) := by decide +kernel
theorem dX3_count_145 : decode cX3_count 145 = .ok (.ireturn, 1) := by decide +kernel
theorem dX3_count_146 : decode cX3_count 146 = .ok (.aload_n 0, 1) := by decide +kernel
theorem dX3_count_147 : decode cX3_count 147 = .ok (.getfield 10, 3) := by decide +kernel
theorem dX3_count_150 : decode cX3_count 150 = .ok (.iconst 2, 1) := by decide +kernel
theorem dX3_count_151 : decode cX3_count 151 = .ok (.invokevirtual 58, 3) := by decide +kernel
theorem dX3_count_154 : decode cX3_count 154 = .ok (.ireturn, 1) := by decide +kernel
theorem dX3_count_155 : decode cX3_count 155 = .ok (.aload_n 0, 1) := by decide +kernel
theorem dX3_count_156 : decode cX3_count 156 = .ok (.getfield 10, 3) := by decide +kernel
theorem dX3_count_159 : decode cX3_count 159 = .ok (.iconst 3, 1) := by decide +kernel
theorem dX3_count_160 : decode cX3_count 160 = .ok (.invokevirtual 58, 3) := by decide +kernel
theorem dX3_count_163 : decode cX3_count 163 = .ok (.ireturn, 1) := by decide +kernel
theorem dX3_count_164 : decode cX3_count 164 = .ok (.aload_n 0, 1) := by decide +kernel
theorem dX3_count_165 : decode cX3_count 165 = .ok (.getfield 10, 3) := by decide +kernel
theorem dX3_count_168 : decode cX3_count 168 = .ok (.iconst 4, 1) := by decide +kernel
theorem dX3_count_169 : decode cX3_count 169 = .ok (.invokevirtual 58, 3) := by decide +kernel
theorem dX3_count_172 : decode cX3_count 172 = .ok (.ireturn, 1) := by decide +kernel
theorem dX3_count_173 : decode cX3_count 173 = .ok (.aload_n 0, 1) := by decide +kernel
theorem dX3_count_174 : decode cX3_count 174 = .ok (.getfield 10, 3) := by decide +kernel
theorem dX3_count_177 : decode cX3_count 177 = .ok (.getfield 69, 3) := by decide +kernel
theorem dX3_count_180 : decode cX3_count 180 = .ok (.ireturn, 1) := by decide +kernel
theorem dX3_count_181 : decode cX3_count 181 = .ok (.aload_n 0, 1) := by decide +kernel
theorem dX3_count_182 : decode cX3_count 182 = .ok (.getfield 10, 3) := by decide +kernel
theorem dX3_count_185 : decode cX3_count 185 = .ok (.invokevirtual 72, 3) := by decide +kernel
theorem dX3_count_188 : decode cX3_count 188 = .ok (.ifCond .eq 7, 3) := by decide +kernel
theorem dX3_count_191 : decode cX3_count 191 = .ok (.iconst 1, 1) := by decide +kernel
theorem dX3_count_192 : decode cX3_count 192 = .ok (.goto 4, 3) := by decide +kernel
theorem dX3_count_195 : decode cX3_count 195 = .ok (.iconst 0, 1) := by decide +kernel
theorem dX3_count_196 : decode cX3_count 196 = .ok (.ireturn, 1) := by decide +kernel
theorem dX3_count_197 : decode cX3_count 197 = .ok (.aload_n 0, 1) := by decide +kernel
theorem dX3_count_198 : decode cX3_count 198 = .ok (.getfield 10, 3) := by decide +kernel
theorem dX3_count_201 : decode cX3_count 201 = .ok (.getfield 76, 3) := by decide +kernel
theorem dX3_count_204 : decode cX3_count 204 = .ok (.ireturn, 1) := by decide +kernel
theorem dX3_count_205 : decode cX3_count 205 = .ok (.aload_n 0, 1) := by decide +kernel
theorem dX3_count_206 : decode cX3_count 206 = .ok (.getfield 10, 3) := by decide +kernel
theorem dX3_count_209 : decode cX3_count 209 = .ok (.getfield 79, 3) := by decide +kernel
theorem dX3_count_212 : decode cX3_count 212 = .ok (.ireturn, 1) := by decide +kernel
theorem dX3_count_213 : decode cX3_count 213 = .ok (.aload_n 0, 1) := by decide +kernel
theorem dX3_count_214 : decode cX3_count 214 = .ok (.getfield 10, 3) := by decide +kernel
theorem dX3_count_217 : decode cX3_count 217 = .ok (.getfield 82, 3) := by decide +kernel
theorem dX3_count_220 : decode cX3_count 220 = .ok (.ireturn, 1) := by decide +kernel
theorem dX3_count_221 : decode cX3_count 221 = .ok (.aload_n 0, 1) := by decide +kernel
theorem dX3_count_222 : decode cX3_count 222 = .ok (.getfield 10, 3) := by decide +kernel
theorem dX3_count_225 : decode cX3_count 225 = .ok (.getfield 85, 3) := by decide +kernel
theorem dX3_count_228 : decode cX3_count 228 = .ok (.ireturn, 1) := by decide +kernel
theorem dX3_count_229 : decode cX3_count 229 = .ok (.aload_n 0, 1) := by decide +kernel
theorem dX3_count_230 : decode cX3_count 230 = .ok (.getfield 20, 3) := by decide +kernel
theorem dX3_count_233 : decode cX3_count 233 = .ok (.ireturn, 1) := by decide +kernel
theorem dX3_count_234 : decode cX3_count 234 = .ok (.aload_n 0, 1) := by decide +kernel
theorem dX3_count_235 : decode cX3_count 235 = .ok (.getfield 27, 3) := by decide +kernel
theorem dX3_count_238 : decode cX3_count 238 = .ok (.getfield 88, 3) := by decide +kernel
theorem dX3_count_241 : decode cX3_count 241 = .ok (.ireturn, 1) := by decide +kernel
theorem dX3_count_242 : decode cX3_count 242 = .ok (.ldc 35, 2) := by decide +kernel
theorem dX3_count_244 : decode cX3_count 244 = .ok (.ireturn, 1) := by decide +kernel
theorem dX3_sharpen_0 : decode cX3_sharpen 0 = .ok (.aload_n 0, 1) := by decide +kernel
theorem dX3_sharpen_1 : decode cX3_sharpen 1 = .ok (.getfield 10, 3) := by decide +kernel
theorem dX3_sharpen_4 : decode cX3_sharpen 4 = .ok (.getfield 76, 3) := by decide +kernel
theorem dX3_sharpen_7 : decode cX3_sharpen 7 = .ok (.iconst 1, 1) := by decide +kernel
theorem dX3_sharpen_8 : decode cX3_sharpen 8 = .ok (.if_icmp .ge 6, 3) := by decide +kernel
theorem dX3_sharpen_11 : decode cX3_sharpen 11 = .ok (.ldc 91, 2) := by decide +kernel
theorem dX3_sharpen_13 : decode cX3_sharpen 13 = .ok (.ireturn, 1) := by decide +kernel
theorem dX3_sharpen_14 : decode cX3_sharpen 14 = .ok (.aload_n 0, 1) := by decide +kernel
theorem dX3_sharpen_15 : decode cX3_sharpen 15 = .ok (.getfield 10, 3) := by decide +kernel
theorem dX3_sharpen_18 : decode cX3_sharpen 18 = .ok (.getfield 69, 3) := by decide +kernel
theorem dX3_sharpen_21 : decode cX3_sharpen 21 = .ok (.istore_n 1, 1) := by decide +kernel
theorem dX3_sharpen_22 : decode cX3_sharpen 22 = .ok (.aload_n 0, 1) := by decide +kernel
theorem dX3_sharpen_23 : decode cX3_sharpen 23 = .ok (.invokevirtual 42, 3) := by decide +kernel
theorem dX3_sharpen_26 : decode cX3_sharpen 26 = .ok (.aload_n 0, 1) := by decide +kernel
theorem dX3_sharpen_27 : decode cX3_sharpen 27 = .ok (.getfield 10, 3) := by decide +kernel
theorem dX3_sharpen_30 : decode cX3_sharpen 30 = .ok (.dup, 1) := by decide +kernel
theorem dX3_sharpen_31 : decode cX3_sharpen 31 = .ok (.getfield 76, 3) := by decide +kernel
theorem dX3_sharpen_34 : decode cX3_sharpen 34 = .ok (.iconst 1, 1) := by decide +kernel
theorem dX3_sharpen_35 : decode cX3_sharpen 35 = .ok (.isub, 1) := by decide +kernel
theorem dX3_sharpen_36 : decode cX3_sharpen 36 = .ok (.putfield 76, 3) := by decide +kernel
theorem dX3_sharpen_39 : decode cX3_sharpen 39 = .ok (.aload_n 0, 1) := by decide +kernel
theorem dX3_sharpen_40 : decode cX3_sharpen 40 = .ok (.getfield 10, 3) := by decide +kernel
theorem dX3_sharpen_43 : decode cX3_sharpen 43 = .ok (.iconst 0, 1) := by decide +kernel
theorem dX3_sharpen_44 : decode cX3_sharpen 44 = .ok (.putfield 69, 3) := by decide +kernel
theorem dX3_sharpen_47 : decode cX3_sharpen 47 = .ok (.iload_n 1, 1) := by decide +kernel
theorem dX3_sharpen_48 : decode cX3_sharpen 48 = .ok (.ireturn, 1) := by decide +kernel
theorem dX3_draw_0 : decode cX3_draw 0 = .ok (.aload_n 0, 1) := by decide +kernel
theorem dX3_draw_1 : decode cX3_draw 1 = .ok (.getfield 10, 3) := by decide +kernel
theorem dX3_draw_4 : decode cX3_draw 4 = .ok (.invokevirtual 92, 3) := by decide +kernel
theorem dX3_draw_7 : decode cX3_draw 7 = .ok (.ifnonnull 6, 3) := by decide +kernel
theorem dX3_draw_10 : decode cX3_draw 10 = .ok (.ldc 91, 2) := by decide +kernel
theorem dX3_draw_12 : decode cX3_draw 12 = .ok (.ireturn, 1) := by decide +kernel
theorem dX3_draw_13 : decode cX3_draw 13 = .ok (.aload_n 0, 1) := by decide +kernel
theorem dX3_draw_14 : decode cX3_draw 14 = .ok (.invokevirtual 42, 3) := by decide +kernel
theorem dX3_draw_17 : decode cX3_draw 17 = .ok (.aload_n 0, 1) := by decide +kernel
theorem dX3_draw_18 : decode cX3_draw 18 = .ok (.getfield 10, 3) := by decide +kernel
theorem dX3_draw_21 : decode cX3_draw 21 = .ok (.invokevirtual 96, 3) := by decide +kernel
theorem dX3_draw_24 : decode cX3_draw 24 = .ok (.ireturn, 1) := by decide +kernel
theorem dX3_point_0 : decode cX3_point 0 = .ok (.aload_n 0, 1) := by decide +kernel
theorem dX3_point_1 : decode cX3_point 1 = .ok (.getfield 10, 3) := by decide +kernel
theorem dX3_point_4 : decode cX3_point 4 = .ok (.iload_n 1, 1) := by decide +kernel
theorem dX3_point_5 : decode cX3_point 5 = .ok (.invokevirtual 100, 3) := by decide +kernel
theorem dX3_point_8 : decode cX3_point 8 = .ok (.astore 5, 2) := by decide +kernel
theorem dX3_point_10 : decode cX3_point 10 = .ok (.aload 5, 2) := by decide +kernel
theorem dX3_point_12 : decode cX3_point 12 = .ok (.ifnull 35, 3) := by decide +kernel
theorem dX3_point_15 : decode cX3_point 15 = .ok (.iload_n 2, 1) := by decide +kernel
theorem dX3_point_16 : decode cX3_point 16 = .ok (.iconst 0, 1) := by decide +kernel
theorem dX3_point_17 : decode cX3_point 17 = .ok (.sipush 1000, 3) := by decide +kernel
theorem dX3_point_20 : decode cX3_point 20 = .ok (.invokestatic 31, 3) := by decide +kernel
theorem dX3_point_23 : decode cX3_point 23 = .ok (.ifCond .eq 24, 3) := by decide +kernel
theorem dX3_point_26 : decode cX3_point 26 = .ok (.iload_n 3, 1) := by decide +kernel
theorem dX3_point_27 : decode cX3_point 27 = .ok (.iconst 0, 1) := by decide +kernel
theorem dX3_point_28 : decode cX3_point 28 = .ok (.sipush 1000, 3) := by decide +kernel
theorem dX3_point_31 : decode cX3_point 31 = .ok (.invokestatic 31, 3) := by decide +kernel
theorem dX3_point_34 : decode cX3_point 34 = .ok (.ifCond .eq 13, 3) := by decide +kernel
theorem dX3_point_37 : decode cX3_point 37 = .ok (.iload 4, 2) := by decide +kernel
theorem dX3_point_39 : decode cX3_point 39 = .ok (.iconst 0, 1) := by decide +kernel
theorem dX3_point_40 : decode cX3_point 40 = .ok (.iconst 1, 1) := by decide +kernel
theorem dX3_point_41 : decode cX3_point 41 = .ok (.invokestatic 31, 3) := by decide +kernel
theorem dX3_point_44 : decode cX3_point 44 = .ok (.ifCond .ne 6, 3) := by decide +kernel
theorem dX3_point_47 : decode cX3_point 47 = .ok (.ldc 35, 2) := by decide +kernel
theorem dX3_point_49 : decode cX3_point 49 = .ok (.ireturn, 1) := by decide +kernel
theorem dX3_point_50 : decode cX3_point 50 = .ok (.aload 5, 2) := by decide +kernel
theorem dX3_point_52 : decode cX3_point 52 = .ok (.invokevirtual 104, 3) := by decide +kernel
theorem dX3_point_55 : decode cX3_point 55 = .ok (.ifCond .ne 14, 3) := by decide +kernel
theorem dX3_point_58 : decode cX3_point 58 = .ok (.aload_n 0, 1) := by decide +kernel
theorem dX3_point_59 : decode cX3_point 59 = .ok (.getfield 10, 3) := by decide +kernel
theorem dX3_point_62 : decode cX3_point 62 = .ok (.iload_n 1, 1) := by decide +kernel
theorem dX3_point_63 : decode cX3_point 63 = .ok (.invokevirtual 109, 3) := by decide +kernel
theorem dX3_point_66 : decode cX3_point 66 = .ok (.ifCond .eq 6, 3) := by decide +kernel
theorem dX3_point_69 : decode cX3_point 69 = .ok (.ldc 113, 2) := by decide +kernel
theorem dX3_point_71 : decode cX3_point 71 = .ok (.ireturn, 1) := by decide +kernel
theorem dX3_point_72 : decode cX3_point 72 = .ok (.aload 5, 2) := by decide +kernel
theorem dX3_point_74 : decode cX3_point 74 = .ok (.invokevirtual 114, 3) := by decide +kernel
theorem dX3_point_77 : decode cX3_point 77 = .ok (.ifCond .eq 6, 3) := by decide +kernel
theorem dX3_point_80 : decode cX3_point 80 = .ok (.ldc 91, 2) := by decide +kernel
theorem dX3_point_82 : decode cX3_point 82 = .ok (.ireturn, 1) := by decide +kernel
theorem dX3_point_83 : decode cX3_point 83 = .ok (.aload_n 0, 1) := by decide +kernel
theorem dX3_point_84 : decode cX3_point 84 = .ok (.invokevirtual 42, 3) := by decide +kernel
theorem dX3_point_87 : decode cX3_point 87 = .ok (.aload 5, 2) := by decide +kernel
theorem dX3_point_89 : decode cX3_point 89 = .ok (.iload_n 2, 1) := by decide +kernel
theorem dX3_point_90 : decode cX3_point 90 = .ok (.i2l, 1) := by decide +kernel
theorem dX3_point_91 : decode cX3_point 91 = .ok (.iload_n 3, 1) := by decide +kernel
theorem dX3_point_92 : decode cX3_point 92 = .ok (.i2l, 1) := by decide +kernel
theorem dX3_point_93 : decode cX3_point 93 = .ok (.iload 4, 2) := by decide +kernel
theorem dX3_point_95 : decode cX3_point 95 = .ok (.iconst 1, 1) := by decide +kernel
theorem dX3_point_96 : decode cX3_point 96 = .ok (.if_icmp .ne 7, 3) := by decide +kernel
theorem dX3_point_99 : decode cX3_point 99 = .ok (.iconst 1, 1) := by decide +kernel
theorem dX3_point_100 : decode cX3_point 100 = .ok (.goto 4, 3) := by decide +kernel
theorem dX3_point_103 : decode cX3_point 103 = .ok (.iconst (-1), 1) := by decide +kernel
theorem dX3_point_104 : decode cX3_point 104 = .ok (.invokevirtual 117, 3) := by decide +kernel
theorem dX3_point_107 : decode cX3_point 107 = .ok (.aload 5, 2) := by decide +kernel
theorem dX3_point_109 : decode cX3_point 109 = .ok (.getfield 121, 3) := by decide +kernel
theorem dX3_point_112 : decode cX3_point 112 = .ok (.iconst 1, 1) := by decide +kernel
theorem dX3_point_113 : decode cX3_point 113 = .ok (.isub, 1) := by decide +kernel
theorem dX3_point_114 : decode cX3_point 114 = .ok (.ireturn, 1) := by decide +kernel
theorem dX3_remove_0 : decode cX3_remove 0 = .ok (.aload_n 0, 1) := by decide +kernel
theorem dX3_remove_1 : decode cX3_remove 1 = .ok (.getfield 10, 3) := by decide +kernel
theorem dX3_remove_4 : decode cX3_remove 4 = .ok (.iload_n 1, 1) := by decide +kernel
theorem dX3_remove_5 : decode cX3_remove 5 = .ok (.invokevirtual 100, 3) := by decide +kernel
theorem dX3_remove_8 : decode cX3_remove 8 = .ok (.ifnonnull 6, 3) := by decide +kernel
theorem dX3_remove_11 : decode cX3_remove 11 = .ok (.ldc 35, 2) := by decide +kernel
theorem dX3_remove_13 : decode cX3_remove 13 = .ok (.ireturn, 1) := by decide +kernel
theorem dX3_remove_14 : decode cX3_remove 14 = .ok (.aload_n 0, 1) := by decide +kernel
theorem dX3_remove_15 : decode cX3_remove 15 = .ok (.getfield 10, 3) := by decide +kernel
theorem dX3_remove_18 : decode cX3_remove 18 = .ok (.iload_n 1, 1) := by decide +kernel
theorem dX3_remove_19 : decode cX3_remove 19 = .ok (.invokevirtual 109, 3) := by decide +kernel
theorem dX3_remove_22 : decode cX3_remove 22 = .ok (.ifCond .eq 6, 3) := by decide +kernel
theorem dX3_remove_25 : decode cX3_remove 25 = .ok (.ldc 113, 2) := by decide +kernel
theorem dX3_remove_27 : decode cX3_remove 27 = .ok (.ireturn, 1) := by decide +kernel
theorem dX3_remove_28 : decode cX3_remove 28 = .ok (.aload_n 0, 1) := by decide +kernel
theorem dX3_remove_29 : decode cX3_remove 29 = .ok (.invokevirtual 42, 3) := by decide +kernel
theorem dX3_remove_32 : decode cX3_remove 32 = .ok (.aload_n 0, 1) := by decide +kernel
theorem dX3_remove_33 : decode cX3_remove 33 = .ok (.getfield 10, 3) := by decide +kernel
theorem dX3_remove_36 : decode cX3_remove 36 = .ok (.iload_n 1, 1) := by decide +kernel
theorem dX3_remove_37 : decode cX3_remove 37 = .ok (.invokevirtual 122, 3) := by decide +kernel
theorem dX3_remove_40 : decode cX3_remove 40 = .ok (.aload_n 0, 1) := by decide +kernel
theorem dX3_remove_41 : decode cX3_remove 41 = .ok (.getfield 10, 3) := by decide +kernel
theorem dX3_remove_44 : decode cX3_remove 44 = .ok (.getfield 66, 3) := by decide +kernel
theorem dX3_remove_47 : decode cX3_remove 47 = .ok (.ireturn, 1) := by decide +kernel
theorem dX3_copy_0 : decode cX3_copy 0 = .ok (.aload_n 0, 1) := by decide +kernel
theorem dX3_copy_1 : decode cX3_copy 1 = .ok (.getfield 10, 3) := by decide +kernel
theorem dX3_copy_4 : decode cX3_copy 4 = .ok (.iload_n 1, 1) := by decide +kernel
theorem dX3_copy_5 : decode cX3_copy 5 = .ok (.invokevirtual 100, 3) := by decide +kernel
theorem dX3_copy_8 : decode cX3_copy 8 = .ok (.astore_n 2, 1) := by decide +kernel
theorem dX3_copy_9 : decode cX3_copy 9 = .ok (.aload_n 2, 1) := by decide +kernel
theorem dX3_copy_10 : decode cX3_copy 10 = .ok (.ifnonnull 6, 3) := by decide +kernel
theorem dX3_copy_13 : decode cX3_copy 13 = .ok (.ldc 35, 2) := by decide +kernel
theorem dX3_copy_15 : decode cX3_copy 15 = .ok (.ireturn, 1) := by decide +kernel
theorem dX3_copy_16 : decode cX3_copy 16 = .ok (.aload_n 0, 1) := by decide +kernel
theorem dX3_copy_17 : decode cX3_copy 17 = .ok (.getfield 10, 3) := by decide +kernel
theorem dX3_copy_20 : decode cX3_copy 20 = .ok (.iload_n 1, 1) := by decide +kernel
theorem dX3_copy_21 : decode cX3_copy 21 = .ok (.aload_n 2, 1) := by decide +kernel
theorem dX3_copy_22 : decode cX3_copy 22 = .ok (.invokevirtual 126, 3) := by decide +kernel
theorem dX3_copy_25 : decode cX3_copy 25 = .ok (.ifCond .eq 6, 3) := by decide +kernel
theorem dX3_copy_28 : decode cX3_copy 28 = .ok (.ldc 113, 2) := by decide +kernel
theorem dX3_copy_30 : decode cX3_copy 30 = .ok (.ireturn, 1) := by decide +kernel
theorem dX3_copy_31 : decode cX3_copy 31 = .ok (.aload_n 0, 1) := by decide +kernel
theorem dX3_copy_32 : decode cX3_copy 32 = .ok (.invokevirtual 42, 3) := by decide +kernel
theorem dX3_copy_35 : decode cX3_copy 35 = .ok (.aload_n 0, 1) := by decide +kernel
theorem dX3_copy_36 : decode cX3_copy 36 = .ok (.getfield 10, 3) := by decide +kernel
theorem dX3_copy_39 : decode cX3_copy 39 = .ok (.invokevirtual 130, 3) := by decide +kernel
theorem dX3_copy_42 : decode cX3_copy 42 = .ok (.ireturn, 1) := by decide +kernel
theorem dX3_why_0 : decode cX3_why 0 = .ok (.aload_n 0, 1) := by decide +kernel
theorem dX3_why_1 : decode cX3_why 1 = .ok (.getfield 10, 3) := by decide +kernel
theorem dX3_why_4 : decode cX3_why 4 = .ok (.iload_n 1, 1) := by decide +kernel
theorem dX3_why_5 : decode cX3_why 5 = .ok (.invokevirtual 100, 3) := by decide +kernel
theorem dX3_why_8 : decode cX3_why 8 = .ok (.astore_n 2, 1) := by decide +kernel
theorem dX3_why_9 : decode cX3_why 9 = .ok (.aload_n 2, 1) := by decide +kernel
theorem dX3_why_10 : decode cX3_why 10 = .ok (.ifnonnull 8, 3) := by decide +kernel
theorem dX3_why_13 : decode cX3_why 13 = .ok (.ldc 35, 2) := by decide +kernel
theorem dX3_why_15 : decode cX3_why 15 = .ok (.goto 12, 3) := by decide +kernel
theorem dX3_why_18 : decode cX3_why 18 = .ok (.aload_n 0, 1) := by decide +kernel
theorem dX3_why_19 : decode cX3_why 19 = .ok (.getfield 10, 3) := by decide +kernel
theorem dX3_why_22 : decode cX3_why 22 = .ok (.iload_n 1, 1) := by decide +kernel
theorem dX3_why_23 : decode cX3_why 23 = .ok (.aload_n 2, 1) := by decide +kernel
theorem dX3_why_24 : decode cX3_why 24 = .ok (.invokevirtual 126, 3) := by decide +kernel
theorem dX3_why_27 : decode cX3_why 27 = .ok (.ireturn, 1) := by decide +kernel
theorem dX3_drawing_0 : decode cX3_drawing 0 = .ok (.aload_n 0, 1) := by decide +kernel
theorem dX3_drawing_1 : decode cX3_drawing 1 = .ok (.getfield 10, 3) := by decide +kernel
theorem dX3_drawing_4 : decode cX3_drawing 4 = .ok (.iload_n 1, 1) := by decide +kernel
theorem dX3_drawing_5 : decode cX3_drawing 5 = .ok (.invokevirtual 100, 3) := by decide +kernel
theorem dX3_drawing_8 : decode cX3_drawing 8 = .ok (.astore_n 3, 1) := by decide +kernel
theorem dX3_drawing_9 : decode cX3_drawing 9 = .ok (.aload_n 3, 1) := by decide +kernel
theorem dX3_drawing_10 : decode cX3_drawing 10 = .ok (.ifnonnull 6, 3) := by decide +kernel
theorem dX3_drawing_13 : decode cX3_drawing 13 = .ok (.ldc 35, 2) := by decide +kernel
theorem dX3_drawing_15 : decode cX3_drawing 15 = .ok (.ireturn, 1) := by decide +kernel
theorem dX3_drawing_16 : decode cX3_drawing 16 = .ok (.iload_n 2, 1) := by decide +kernel
theorem dX3_drawing_17 : decode cX3_drawing 17 = .ok (.tableswitch 154 0 11 #[63, 68, 85, 94, 103, 108, 113, 118, 123, 128, 137, 145], 63) := by decide +kernel
theorem dX3_drawing_80 : decode cX3_drawing 80 = .ok (.aload_n 3, 1) := by decide +kernel
theorem dX3_drawing_81 : decode cX3_drawing 81 = .ok (.getfield 121, 3) := by decide +kernel
theorem dX3_drawing_84 : decode cX3_drawing 84 = .ok (.ireturn, 1) := by decide +kernel
theorem dX3_drawing_85 : decode cX3_drawing 85 = .ok (.aload_n 3, 1) := by decide +kernel
theorem dX3_drawing_86 : decode cX3_drawing 86 = .ok (.invokevirtual 104, 3) := by decide +kernel
theorem dX3_drawing_89 : decode cX3_drawing 89 = .ok (.ifCond .eq 10, 3) := by decide +kernel
theorem dX3_drawing_92 : decode cX3_drawing 92 = .ok (.aload_n 3, 1) := by decide +kernel
theorem dX3_drawing_93 : decode cX3_drawing 93 = .ok (.getfield 133, 3) := by decide +kernel
theorem dX3_drawing_96 : decode cX3_drawing 96 = .ok (.goto 5, 3) := by decide +kernel
theorem dX3_drawing_99 : decode cX3_drawing 99 = .ok (.ldc 136, 2) := by decide +kernel
theorem dX3_drawing_101 : decode cX3_drawing 101 = .ok (.ireturn, 1) := by decide +kernel
theorem dX3_drawing_102 : decode cX3_drawing 102 = .ok (.aload_n 0, 1) := by decide +kernel
theorem dX3_drawing_103 : decode cX3_drawing 103 = .ok (.getfield 10, 3) := by decide +kernel
theorem dX3_drawing_106 : decode cX3_drawing 106 = .ok (.iload_n 1, 1) := by decide +kernel
theorem dX3_drawing_107 : decode cX3_drawing 107 = .ok (.invokevirtual 137, 3) := by decide +kernel
theorem dX3_drawing_110 : decode cX3_drawing 110 = .ok (.ireturn, 1) := by decide +kernel
theorem dX3_drawing_111 : decode cX3_drawing 111 = .ok (.aload_n 0, 1) := by decide +kernel
theorem dX3_drawing_112 : decode cX3_drawing 112 = .ok (.getfield 10, 3) := by decide +kernel
theorem dX3_drawing_115 : decode cX3_drawing 115 = .ok (.iload_n 1, 1) := by decide +kernel
theorem dX3_drawing_116 : decode cX3_drawing 116 = .ok (.invokevirtual 140, 3) := by decide +kernel
theorem dX3_drawing_119 : decode cX3_drawing 119 = .ok (.ireturn, 1) := by decide +kernel
theorem dX3_drawing_120 : decode cX3_drawing 120 = .ok (.aload_n 3, 1) := by decide +kernel
theorem dX3_drawing_121 : decode cX3_drawing 121 = .ok (.getfield 143, 3) := by decide +kernel
theorem dX3_drawing_124 : decode cX3_drawing 124 = .ok (.ireturn, 1) := by decide +kernel
theorem dX3_drawing_125 : decode cX3_drawing 125 = .ok (.aload_n 3, 1) := by decide +kernel
theorem dX3_drawing_126 : decode cX3_drawing 126 = .ok (.getfield 146, 3) := by decide +kernel
theorem dX3_drawing_129 : decode cX3_drawing 129 = .ok (.ireturn, 1) := by decide +kernel
theorem dX3_drawing_130 : decode cX3_drawing 130 = .ok (.aload_n 3, 1) := by decide +kernel
theorem dX3_drawing_131 : decode cX3_drawing 131 = .ok (.invokevirtual 149, 3) := by decide +kernel
theorem dX3_drawing_134 : decode cX3_drawing 134 = .ok (.ireturn, 1) := by decide +kernel
theorem dX3_drawing_135 : decode cX3_drawing 135 = .ok (.aload_n 3, 1) := by decide +kernel
theorem dX3_drawing_136 : decode cX3_drawing 136 = .ok (.invokevirtual 151, 3) := by decide +kernel
theorem dX3_drawing_139 : decode cX3_drawing 139 = .ok (.ireturn, 1) := by decide +kernel
theorem dX3_drawing_140 : decode cX3_drawing 140 = .ok (.aload_n 3, 1) := by decide +kernel
theorem dX3_drawing_141 : decode cX3_drawing 141 = .ok (.invokevirtual 153, 3) := by decide +kernel
theorem dX3_drawing_144 : decode cX3_drawing 144 = .ok (.ireturn, 1) := by decide +kernel
theorem dX3_drawing_145 : decode cX3_drawing 145 = .ok (.aload_n 0, 1) := by decide +kernel
theorem dX3_drawing_146 : decode cX3_drawing 146 = .ok (.getfield 10, 3) := by decide +kernel
theorem dX3_drawing_149 : decode cX3_drawing 149 = .ok (.aload_n 3, 1) := by decide +kernel
theorem dX3_drawing_150 : decode cX3_drawing 150 = .ok (.invokevirtual 156, 3) := by decide +kernel
theorem dX3_drawing_153 : decode cX3_drawing 153 = .ok (.ireturn, 1) := by decide +kernel
theorem dX3_drawing_154 : decode cX3_drawing 154 = .ok (.aload_n 3, 1) := by decide +kernel
theorem dX3_drawing_155 : decode cX3_drawing 155 = .ok (.invokevirtual 160, 3) := by decide +kernel
theorem dX3_drawing_158 : decode cX3_drawing 158 = .ok (.invokestatic 164, 3) := by decide +kernel
theorem dX3_drawing_161 : decode cX3_drawing 161 = .ok (.ireturn, 1) := by decide +kernel
theorem dX3_drawing_162 : decode cX3_drawing 162 = .ok (.aload_n 3, 1) := by decide +kernel
theorem dX3_drawing_163 : decode cX3_drawing 163 = .ok (.invokevirtual 160, 3) := by decide +kernel
theorem dX3_drawing_166 : decode cX3_drawing 166 = .ok (.ldc 168, 2) := by decide +kernel
theorem dX3_drawing_168 : decode cX3_drawing 168 = .ok (.fmul, 1) := by decide +kernel
theorem dX3_drawing_169 : decode cX3_drawing 169 = .ok (.f2i, 1) := by decide +kernel
theorem dX3_drawing_170 : decode cX3_drawing 170 = .ok (.ireturn, 1) := by decide +kernel
theorem dX3_drawing_171 : decode cX3_drawing 171 = .ok (.ldc 35, 2) := by decide +kernel
theorem dX3_drawing_173 : decode cX3_drawing 173 = .ok (.ireturn, 1) := by decide +kernel
theorem dX3_ratio_0 : decode cX3_ratio 0 = .ok (.aload_n 0, 1) := by decide +kernel
theorem dX3_ratio_1 : decode cX3_ratio 1 = .ok (.getfield 10, 3) := by decide +kernel
theorem dX3_ratio_4 : decode cX3_ratio 4 = .ok (.iload_n 1, 1) := by decide +kernel
theorem dX3_ratio_5 : decode cX3_ratio 5 = .ok (.invokevirtual 100, 3) := by decide +kernel
theorem dX3_ratio_8 : decode cX3_ratio 8 = .ok (.astore_n 3, 1) := by decide +kernel
theorem dX3_ratio_9 : decode cX3_ratio 9 = .ok (.aload_n 3, 1) := by decide +kernel
theorem dX3_ratio_10 : decode cX3_ratio 10 = .ok (.ifnull 12, 3) := by decide +kernel
theorem dX3_ratio_13 : decode cX3_ratio 13 = .ok (.iload_n 2, 1) := by decide +kernel
theorem dX3_ratio_14 : decode cX3_ratio 14 = .ok (.iconst 0, 1) := by decide +kernel
theorem dX3_ratio_15 : decode cX3_ratio 15 = .ok (.iconst 1, 1) := by decide +kernel
theorem dX3_ratio_16 : decode cX3_ratio 16 = .ok (.invokestatic 31, 3) := by decide +kernel
theorem dX3_ratio_19 : decode cX3_ratio 19 = .ok (.ifCond .ne 6, 3) := by decide +kernel
theorem dX3_ratio_22 : decode cX3_ratio 22 = .ok (.ldc 35, 2) := by decide +kernel
theorem dX3_ratio_24 : decode cX3_ratio 24 = .ok (.ireturn, 1) := by decide +kernel
theorem dX3_ratio_25 : decode cX3_ratio 25 = .ok (.aload_n 3, 1) := by decide +kernel
theorem dX3_ratio_26 : decode cX3_ratio 26 = .ok (.getfield 169, 3) := by decide +kernel
theorem dX3_ratio_29 : decode cX3_ratio 29 = .ok (.aload_n 3, 1) := by decide +kernel
theorem dX3_ratio_30 : decode cX3_ratio 30 = .ok (.getfield 173, 3) := by decide +kernel
theorem dX3_ratio_33 : decode cX3_ratio 33 = .ok (.iload_n 2, 1) := by decide +kernel
theorem dX3_ratio_34 : decode cX3_ratio 34 = .ok (.invokestatic 176, 3) := by decide +kernel
theorem dX3_ratio_37 : decode cX3_ratio 37 = .ok (.l2i, 1) := by decide +kernel
theorem dX3_ratio_38 : decode cX3_ratio 38 = .ok (.ireturn, 1) := by decide +kernel
theorem dX3_pointInfo_0 : decode cX3_pointInfo 0 = .ok (.aload_n 0, 1) := by decide +kernel
theorem dX3_pointInfo_1 : decode cX3_pointInfo 1 = .ok (.getfield 10, 3) := by decide +kernel
theorem dX3_pointInfo_4 : decode cX3_pointInfo 4 = .ok (.iload_n 1, 1) := by decide +kernel
theorem dX3_pointInfo_5 : decode cX3_pointInfo 5 = .ok (.invokevirtual 100, 3) := by decide +kernel
theorem dX3_pointInfo_8 : decode cX3_pointInfo 8 = .ok (.astore 4, 2) := by decide +kernel
theorem dX3_pointInfo_10 : decode cX3_pointInfo 10 = .ok (.aload 4, 2) := by decide +kernel
theorem dX3_pointInfo_12 : decode cX3_pointInfo 12 = .ok (.ifnull 12, 3) := by decide +kernel
theorem dX3_pointInfo_15 : decode cX3_pointInfo 15 = .ok (.aload 4, 2) := by decide +kernel
theorem dX3_pointInfo_17 : decode cX3_pointInfo 17 = .ok (.iload_n 2, 1) := by decide +kernel
theorem dX3_pointInfo_18 : decode cX3_pointInfo 18 = .ok (.invokevirtual 180, 3) := by decide +kernel
theorem dX3_pointInfo_21 : decode cX3_pointInfo 21 = .ok (.ifCond .ne 7, 3) := by decide +kernel
theorem dX3_pointInfo_24 : decode cX3_pointInfo 24 = .ok (.ldc2_w 183, 3) := by decide +kernel
theorem dX3_pointInfo_27 : decode cX3_pointInfo 27 = .ok (.lreturn, 1) := by decide +kernel
theorem dX3_pointInfo_28 : decode cX3_pointInfo 28 = .ok (.iload_n 3, 1) := by decide +kernel
theorem dX3_pointInfo_29 : decode cX3_pointInfo 29 = .ok (.tableswitch 151 0 6 #[43, 59, 75, 91, 107, 122, 130], 43) := by decide +kernel
theorem dX3_pointInfo_72 : decode cX3_pointInfo 72 = .ok (.aload 4, 2) := by decide +kernel
theorem dX3_pointInfo_74 : decode cX3_pointInfo 74 = .ok (.iload_n 2, 1) := by decide +kernel
theorem dX3_pointInfo_75 : decode cX3_pointInfo 75 = .ok (.invokevirtual 185, 3) := by decide +kernel
theorem dX3_pointInfo_78 : decode cX3_pointInfo 78 = .ok (.aload 4, 2) := by decide +kernel
theorem dX3_pointInfo_80 : decode cX3_pointInfo 80 = .ok (.getfield 173, 3) := by decide +kernel
theorem dX3_pointInfo_83 : decode cX3_pointInfo 83 = .ok (.iconst 0, 1) := by decide +kernel
theorem dX3_pointInfo_84 : decode cX3_pointInfo 84 = .ok (.invokestatic 176, 3) := by decide +kernel
theorem dX3_pointInfo_87 : decode cX3_pointInfo 87 = .ok (.lreturn, 1) := by decide +kernel
theorem dX3_pointInfo_88 : decode cX3_pointInfo 88 = .ok (.aload 4, 2) := by decide +kernel
theorem dX3_pointInfo_90 : decode cX3_pointInfo 90 = .ok (.iload_n 2, 1) := by decide +kernel
theorem dX3_pointInfo_91 : decode cX3_pointInfo 91 = .ok (.invokevirtual 185, 3) := by decide +kernel
theorem dX3_pointInfo_94 : decode cX3_pointInfo 94 = .ok (.aload 4, 2) := by decide +kernel
theorem dX3_pointInfo_96 : decode cX3_pointInfo 96 = .ok (.getfield 173, 3) := by decide +kernel
theorem dX3_pointInfo_99 : decode cX3_pointInfo 99 = .ok (.iconst 1, 1) := by decide +kernel
theorem dX3_pointInfo_100 : decode cX3_pointInfo 100 = .ok (.invokestatic 176, 3) := by decide +kernel
theorem dX3_pointInfo_103 : decode cX3_pointInfo 103 = .ok (.lreturn, 1) := by decide +kernel
theorem dX3_pointInfo_104 : decode cX3_pointInfo 104 = .ok (.aload 4, 2) := by decide +kernel
theorem dX3_pointInfo_106 : decode cX3_pointInfo 106 = .ok (.iload_n 2, 1) := by decide +kernel
theorem dX3_pointInfo_107 : decode cX3_pointInfo 107 = .ok (.invokevirtual 189, 3) := by decide +kernel
theorem dX3_pointInfo_110 : decode cX3_pointInfo 110 = .ok (.aload 4, 2) := by decide +kernel
theorem dX3_pointInfo_112 : decode cX3_pointInfo 112 = .ok (.getfield 173, 3) := by decide +kernel
theorem dX3_pointInfo_115 : decode cX3_pointInfo 115 = .ok (.iconst 0, 1) := by decide +kernel
theorem dX3_pointInfo_116 : decode cX3_pointInfo 116 = .ok (.invokestatic 176, 3) := by decide +kernel
theorem dX3_pointInfo_119 : decode cX3_pointInfo 119 = .ok (.lreturn, 1) := by decide +kernel
theorem dX3_pointInfo_120 : decode cX3_pointInfo 120 = .ok (.aload 4, 2) := by decide +kernel
theorem dX3_pointInfo_122 : decode cX3_pointInfo 122 = .ok (.iload_n 2, 1) := by decide +kernel
theorem dX3_pointInfo_123 : decode cX3_pointInfo 123 = .ok (.invokevirtual 189, 3) := by decide +kernel
theorem dX3_pointInfo_126 : decode cX3_pointInfo 126 = .ok (.aload 4, 2) := by decide +kernel
theorem dX3_pointInfo_128 : decode cX3_pointInfo 128 = .ok (.getfield 173, 3) := by decide +kernel
theorem dX3_pointInfo_131 : decode cX3_pointInfo 131 = .ok (.iconst 1, 1) := by decide +kernel
theorem dX3_pointInfo_132 : decode cX3_pointInfo 132 = .ok (.invokestatic 176, 3) := by decide +kernel
theorem dX3_pointInfo_135 : decode cX3_pointInfo 135 = .ok (.lreturn, 1) := by decide +kernel
theorem dX3_pointInfo_136 : decode cX3_pointInfo 136 = .ok (.aload 4, 2) := by decide +kernel
theorem dX3_pointInfo_138 : decode cX3_pointInfo 138 = .ok (.iload_n 2, 1) := by decide +kernel
theorem dX3_pointInfo_139 : decode cX3_pointInfo 139 = .ok (.invokevirtual 192, 3) := by decide +kernel
theorem dX3_pointInfo_142 : decode cX3_pointInfo 142 = .ok (.ifCond .eq 7, 3) := by decide +kernel
theorem dX3_pointInfo_145 : decode cX3_pointInfo 145 = .ok (.lconst 1, 1) := by decide +kernel
theorem dX3_pointInfo_146 : decode cX3_pointInfo 146 = .ok (.goto 4, 3) := by decide +kernel
theorem dX3_pointInfo_149 : decode cX3_pointInfo 149 = .ok (.lconst 0, 1) := by decide +kernel
theorem dX3_pointInfo_150 : decode cX3_pointInfo 150 = .ok (.lreturn, 1) := by decide +kernel
theorem dX3_pointInfo_151 : decode cX3_pointInfo 151 = .ok (.aload 4, 2) := by decide +kernel
theorem dX3_pointInfo_153 : decode cX3_pointInfo 153 = .ok (.iload_n 2, 1) := by decide +kernel
theorem dX3_pointInfo_154 : decode cX3_pointInfo 154 = .ok (.invokevirtual 195, 3) := by decide +kernel
theorem dX3_pointInfo_157 : decode cX3_pointInfo 157 = .ok (.i2l, 1) := by decide +kernel
theorem dX3_pointInfo_158 : decode cX3_pointInfo 158 = .ok (.lreturn, 1) := by decide +kernel
theorem dX3_pointInfo_159 : decode cX3_pointInfo 159 = .ok (.aload 4, 2) := by decide +kernel
theorem dX3_pointInfo_161 : decode cX3_pointInfo 161 = .ok (.iload_n 2, 1) := by decide +kernel
theorem dX3_pointInfo_162 : decode cX3_pointInfo 162 = .ok (.invokevirtual 195, 3) := by decide +kernel
theorem dX3_pointInfo_165 : decode cX3_pointInfo 165 = .ok (.ifCond .le 13, 3) := by decide +kernel
theorem dX3_pointInfo_168 : decode cX3_pointInfo 168 = .ok (.aload 4, 2) := by decide +kernel
theorem dX3_pointInfo_170 : decode cX3_pointInfo 170 = .ok (.iload_n 2, 1) := by decide +kernel
theorem dX3_pointInfo_171 : decode cX3_pointInfo 171 = .ok (.invokevirtual 198, 3) := by decide +kernel
theorem dX3_pointInfo_174 : decode cX3_pointInfo 174 = .ok (.i2l, 1) := by decide +kernel
theorem dX3_pointInfo_175 : decode cX3_pointInfo 175 = .ok (.goto 4, 3) := by decide +kernel
theorem dX3_pointInfo_178 : decode cX3_pointInfo 178 = .ok (.lconst 0, 1) := by decide +kernel
theorem dX3_pointInfo_179 : decode cX3_pointInfo 179 = .ok (.lreturn, 1) := by decide +kernel
theorem dX3_pointInfo_180 : decode cX3_pointInfo 180 = .ok (.ldc2_w 183, 3) := by decide +kernel
theorem dX3_pointInfo_183 : decode cX3_pointInfo 183 = .ok (.lreturn, 1) := by decide +kernel
theorem dX3_atOnce_0 : decode cX3_atOnce 0 = .ok (.aload_n 0, 1) := by decide +kernel
theorem dX3_atOnce_1 : decode cX3_atOnce 1 = .ok (.getfield 10, 3) := by decide +kernel
theorem dX3_atOnce_4 : decode cX3_atOnce 4 = .ok (.iload_n 1, 1) := by decide +kernel
theorem dX3_atOnce_5 : decode cX3_atOnce 5 = .ok (.invokevirtual 100, 3) := by decide +kernel
theorem dX3_atOnce_8 : decode cX3_atOnce 8 = .ok (.astore 4, 2) := by decide +kernel
theorem dX3_atOnce_10 : decode cX3_atOnce 10 = .ok (.aload_n 0, 1) := by decide +kernel
theorem dX3_atOnce_11 : decode cX3_atOnce 11 = .ok (.getfield 10, 3) := by decide +kernel
theorem dX3_atOnce_14 : decode cX3_atOnce 14 = .ok (.aload_n 0, 1) := by decide +kernel
theorem dX3_atOnce_15 : decode cX3_atOnce 15 = .ok (.getfield 10, 3) := by decide +kernel
theorem dX3_atOnce_18 : decode cX3_atOnce 18 = .ok (.iload_n 1, 1) := by decide +kernel
theorem dX3_atOnce_19 : decode cX3_atOnce 19 = .ok (.invokevirtual 137, 3) := by decide +kernel
theorem dX3_atOnce_22 : decode cX3_atOnce 22 = .ok (.invokevirtual 100, 3) := by decide +kernel
theorem dX3_atOnce_25 : decode cX3_atOnce 25 = .ok (.astore 5, 2) := by decide +kernel
theorem dX3_atOnce_27 : decode cX3_atOnce 27 = .ok (.aload 4, 2) := by decide +kernel
theorem dX3_atOnce_29 : decode cX3_atOnce 29 = .ok (.ifnull 17, 3) := by decide +kernel
theorem dX3_atOnce_32 : decode cX3_atOnce 32 = .ok (.aload 5, 2) := by decide +kernel
theorem dX3_atOnce_34 : decode cX3_atOnce 34 = .ok (.ifnull 12, 3) := by decide +kernel
theorem dX3_atOnce_37 : decode cX3_atOnce 37 = .ok (.aload 4, 2) := by decide +kernel
theorem dX3_atOnce_39 : decode cX3_atOnce 39 = .ok (.iload_n 2, 1) := by decide +kernel
theorem dX3_atOnce_40 : decode cX3_atOnce 40 = .ok (.invokevirtual 180, 3) := by decide +kernel
theorem dX3_atOnce_43 : decode cX3_atOnce 43 = .ok (.ifCond .ne 7, 3) := by decide +kernel
theorem dX3_atOnce_46 : decode cX3_atOnce 46 = .ok (.ldc2_w 183, 3) := by decide +kernel
theorem dX3_atOnce_49 : decode cX3_atOnce 49 = .ok (.lreturn, 1) := by decide +kernel
theorem dX3_atOnce_50 : decode cX3_atOnce 50 = .ok (.iload_n 3, 1) := by decide +kernel
theorem dX3_atOnce_51 : decode cX3_atOnce 51 = .ok (.tableswitch 113 0 3 #[29, 50, 71, 92], 29) := by decide +kernel
theorem dX3_atOnce_80 : decode cX3_atOnce 80 = .ok (.aload 4, 2) := by decide +kernel
theorem dX3_atOnce_82 : decode cX3_atOnce 82 = .ok (.aload 5, 2) := by decide +kernel
theorem dX3_atOnce_84 : decode cX3_atOnce 84 = .ok (.iload_n 2, 1) := by decide +kernel
theorem dX3_atOnce_85 : decode cX3_atOnce 85 = .ok (.invokevirtual 185, 3) := by decide +kernel
theorem dX3_atOnce_88 : decode cX3_atOnce 88 = .ok (.invokevirtual 201, 3) := by decide +kernel
theorem dX3_atOnce_91 : decode cX3_atOnce 91 = .ok (.aload 4, 2) := by decide +kernel
theorem dX3_atOnce_93 : decode cX3_atOnce 93 = .ok (.getfield 173, 3) := by decide +kernel
theorem dX3_atOnce_96 : decode cX3_atOnce 96 = .ok (.iconst 0, 1) := by decide +kernel
theorem dX3_atOnce_97 : decode cX3_atOnce 97 = .ok (.invokestatic 176, 3) := by decide +kernel
theorem dX3_atOnce_100 : decode cX3_atOnce 100 = .ok (.lreturn, 1) := by decide +kernel
theorem dX3_atOnce_101 : decode cX3_atOnce 101 = .ok (.aload 4, 2) := by decide +kernel
theorem dX3_atOnce_103 : decode cX3_atOnce 103 = .ok (.aload 5, 2) := by decide +kernel
theorem dX3_atOnce_105 : decode cX3_atOnce 105 = .ok (.iload_n 2, 1) := by decide +kernel
theorem dX3_atOnce_106 : decode cX3_atOnce 106 = .ok (.invokevirtual 185, 3) := by decide +kernel
theorem dX3_atOnce_109 : decode cX3_atOnce 109 = .ok (.invokevirtual 201, 3) := by decide +kernel
theorem dX3_atOnce_112 : decode cX3_atOnce 112 = .ok (.aload 4, 2) := by decide +kernel
theorem dX3_atOnce_114 : decode cX3_atOnce 114 = .ok (.getfield 173, 3) := by decide +kernel
theorem dX3_atOnce_117 : decode cX3_atOnce 117 = .ok (.iconst 1, 1) := by decide +kernel
theorem dX3_atOnce_118 : decode cX3_atOnce 118 = .ok (.invokestatic 176, 3) := by decide +kernel
theorem dX3_atOnce_121 : decode cX3_atOnce 121 = .ok (.lreturn, 1) := by decide +kernel
theorem dX3_atOnce_122 : decode cX3_atOnce 122 = .ok (.aload 4, 2) := by decide +kernel
theorem dX3_atOnce_124 : decode cX3_atOnce 124 = .ok (.aload 5, 2) := by decide +kernel
theorem dX3_atOnce_126 : decode cX3_atOnce 126 = .ok (.iload_n 2, 1) := by decide +kernel
theorem dX3_atOnce_127 : decode cX3_atOnce 127 = .ok (.invokevirtual 189, 3) := by decide +kernel
theorem dX3_atOnce_130 : decode cX3_atOnce 130 = .ok (.invokevirtual 205, 3) := by decide +kernel
theorem dX3_atOnce_133 : decode cX3_atOnce 133 = .ok (.aload 4, 2) := by decide +kernel
theorem dX3_atOnce_135 : decode cX3_atOnce 135 = .ok (.getfield 173, 3) := by decide +kernel
theorem dX3_atOnce_138 : decode cX3_atOnce 138 = .ok (.iconst 0, 1) := by decide +kernel
theorem dX3_atOnce_139 : decode cX3_atOnce 139 = .ok (.invokestatic 176, 3) := by decide +kernel
theorem dX3_atOnce_142 : decode cX3_atOnce 142 = .ok (.lreturn, 1) := by decide +kernel
theorem dX3_atOnce_143 : decode cX3_atOnce 143 = .ok (.aload 4, 2) := by decide +kernel
theorem dX3_atOnce_145 : decode cX3_atOnce 145 = .ok (.aload 5, 2) := by decide +kernel
theorem dX3_atOnce_147 : decode cX3_atOnce 147 = .ok (.iload_n 2, 1) := by decide +kernel
theorem dX3_atOnce_148 : decode cX3_atOnce 148 = .ok (.invokevirtual 189, 3) := by decide +kernel
theorem dX3_atOnce_151 : decode cX3_atOnce 151 = .ok (.invokevirtual 205, 3) := by decide +kernel
theorem dX3_atOnce_154 : decode cX3_atOnce 154 = .ok (.aload 4, 2) := by decide +kernel
theorem dX3_atOnce_156 : decode cX3_atOnce 156 = .ok (.getfield 173, 3) := by decide +kernel
theorem dX3_atOnce_159 : decode cX3_atOnce 159 = .ok (.iconst 1, 1) := by decide +kernel
theorem dX3_atOnce_160 : decode cX3_atOnce 160 = .ok (.invokestatic 176, 3) := by decide +kernel
theorem dX3_atOnce_163 : decode cX3_atOnce 163 = .ok (.lreturn, 1) := by decide +kernel
theorem dX3_atOnce_164 : decode cX3_atOnce 164 = .ok (.ldc2_w 183, 3) := by decide +kernel
theorem dX3_atOnce_167 : decode cX3_atOnce 167 = .ok (.lreturn, 1) := by decide +kernel
theorem dX3_alike_0 : decode cX3_alike 0 = .ok (.aload_n 0, 1) := by decide +kernel
theorem dX3_alike_1 : decode cX3_alike 1 = .ok (.getfield 10, 3) := by decide +kernel
theorem dX3_alike_4 : decode cX3_alike 4 = .ok (.iload_n 1, 1) := by decide +kernel
theorem dX3_alike_5 : decode cX3_alike 5 = .ok (.invokevirtual 100, 3) := by decide +kernel
theorem dX3_alike_8 : decode cX3_alike 8 = .ok (.astore_n 3, 1) := by decide +kernel
theorem dX3_alike_9 : decode cX3_alike 9 = .ok (.aload_n 0, 1) := by decide +kernel
theorem dX3_alike_10 : decode cX3_alike 10 = .ok (.getfield 10, 3) := by decide +kernel
theorem dX3_alike_13 : decode cX3_alike 13 = .ok (.iload_n 2, 1) := by decide +kernel
theorem dX3_alike_14 : decode cX3_alike 14 = .ok (.invokevirtual 100, 3) := by decide +kernel
theorem dX3_alike_17 : decode cX3_alike 17 = .ok (.astore 4, 2) := by decide +kernel
theorem dX3_alike_19 : decode cX3_alike 19 = .ok (.aload_n 3, 1) := by decide +kernel
theorem dX3_alike_20 : decode cX3_alike 20 = .ok (.ifnull 8, 3) := by decide +kernel
theorem dX3_alike_23 : decode cX3_alike 23 = .ok (.aload 4, 2) := by decide +kernel
theorem dX3_alike_25 : decode cX3_alike 25 = .ok (.ifnonnull 6, 3) := by decide +kernel
theorem dX3_alike_28 : decode cX3_alike 28 = .ok (.ldc 35, 2) := by decide +kernel
theorem dX3_alike_30 : decode cX3_alike 30 = .ok (.ireturn, 1) := by decide +kernel
theorem dX3_alike_31 : decode cX3_alike 31 = .ok (.iconst 0, 1) := by decide +kernel
theorem dX3_alike_32 : decode cX3_alike 32 = .ok (.istore 5, 2) := by decide +kernel
theorem dX3_alike_34 : decode cX3_alike 34 = .ok (.iconst 0, 1) := by decide +kernel
theorem dX3_alike_35 : decode cX3_alike 35 = .ok (.istore 6, 2) := by decide +kernel
theorem dX3_alike_37 : decode cX3_alike 37 = .ok (.iload 6, 2) := by decide +kernel
theorem dX3_alike_39 : decode cX3_alike 39 = .ok (.aload_n 3, 1) := by decide +kernel
theorem dX3_alike_40 : decode cX3_alike 40 = .ok (.getfield 121, 3) := by decide +kernel
theorem dX3_alike_43 : decode cX3_alike 43 = .ok (.if_icmp .ge 78, 3) := by decide +kernel
theorem dX3_alike_46 : decode cX3_alike 46 = .ok (.iload 6, 2) := by decide +kernel
theorem dX3_alike_48 : decode cX3_alike 48 = .ok (.aload 4, 2) := by decide +kernel
theorem dX3_alike_50 : decode cX3_alike 50 = .ok (.getfield 121, 3) := by decide +kernel
theorem dX3_alike_53 : decode cX3_alike 53 = .ok (.if_icmp .ge 68, 3) := by decide +kernel
theorem dX3_alike_56 : decode cX3_alike 56 = .ok (.aload_n 3, 1) := by decide +kernel
theorem dX3_alike_57 : decode cX3_alike 57 = .ok (.iload 6, 2) := by decide +kernel
theorem dX3_alike_59 : decode cX3_alike 59 = .ok (.invokevirtual 185, 3) := by decide +kernel
theorem dX3_alike_62 : decode cX3_alike 62 = .ok (.aload 4, 2) := by decide +kernel
theorem dX3_alike_64 : decode cX3_alike 64 = .ok (.getfield 173, 3) := by decide +kernel
theorem dX3_alike_67 : decode cX3_alike 67 = .ok (.lmul, 1) := by decide +kernel
theorem dX3_alike_68 : decode cX3_alike 68 = .ok (.aload 4, 2) := by decide +kernel
theorem dX3_alike_70 : decode cX3_alike 70 = .ok (.iload 6, 2) := by decide +kernel
theorem dX3_alike_72 : decode cX3_alike 72 = .ok (.invokevirtual 185, 3) := by decide +kernel
theorem dX3_alike_75 : decode cX3_alike 75 = .ok (.aload_n 3, 1) := by decide +kernel
theorem dX3_alike_76 : decode cX3_alike 76 = .ok (.getfield 173, 3) := by decide +kernel
theorem dX3_alike_79 : decode cX3_alike 79 = .ok (.lmul, 1) := by decide +kernel
theorem dX3_alike_80 : decode cX3_alike 80 = .ok (.lcmp, 1) := by decide +kernel
theorem dX3_alike_81 : decode cX3_alike 81 = .ok (.ifCond .ne 34, 3) := by decide +kernel
theorem dX3_alike_84 : decode cX3_alike 84 = .ok (.aload_n 3, 1) := by decide +kernel
theorem dX3_alike_85 : decode cX3_alike 85 = .ok (.iload 6, 2) := by decide +kernel
theorem dX3_alike_87 : decode cX3_alike 87 = .ok (.invokevirtual 189, 3) := by decide +kernel
theorem dX3_alike_90 : decode cX3_alike 90 = .ok (.aload 4, 2) := by decide +kernel
theorem dX3_alike_92 : decode cX3_alike 92 = .ok (.getfield 173, 3) := by decide +kernel
theorem dX3_alike_95 : decode cX3_alike 95 = .ok (.lmul, 1) := by decide +kernel
theorem dX3_alike_96 : decode cX3_alike 96 = .ok (.aload 4, 2) := by decide +kernel
theorem dX3_alike_98 : decode cX3_alike 98 = .ok (.iload 6, 2) := by decide +kernel
theorem dX3_alike_100 : decode cX3_alike 100 = .ok (.invokevirtual 189, 3) := by decide +kernel
theorem dX3_alike_103 : decode cX3_alike 103 = .ok (.aload_n 3, 1) := by decide +kernel
theorem dX3_alike_104 : decode cX3_alike 104 = .ok (.getfield 173, 3) := by decide +kernel
theorem dX3_alike_107 : decode cX3_alike 107 = .ok (.lmul, 1) := by decide +kernel
theorem dX3_alike_108 : decode cX3_alike 108 = .ok (.lcmp, 1) := by decide +kernel
theorem dX3_alike_109 : decode cX3_alike 109 = .ok (.ifCond .ne 6, 3) := by decide +kernel
theorem dX3_alike_112 : decode cX3_alike 112 = .ok (.iinc 5 1, 3) := by decide +kernel
theorem dX3_alike_115 : decode cX3_alike 115 = .ok (.iinc 6 1, 3) := by decide +kernel
theorem dX3_alike_118 : decode cX3_alike 118 = .ok (.goto (-81), 3) := by decide +kernel
theorem dX3_alike_121 : decode cX3_alike 121 = .ok (.iload 5, 2) := by decide +kernel
theorem dX3_alike_123 : decode cX3_alike 123 = .ok (.ireturn, 1) := by decide +kernel
theorem dX3_armFor_0 : decode cX3_armFor 0 = .ok (.aload_n 0, 1) := by decide +kernel
theorem dX3_armFor_1 : decode cX3_armFor 1 = .ok (.getfield 10, 3) := by decide +kernel
theorem dX3_armFor_4 : decode cX3_armFor 4 = .ok (.iload_n 1, 1) := by decide +kernel
theorem dX3_armFor_5 : decode cX3_armFor 5 = .ok (.invokevirtual 100, 3) := by decide +kernel
theorem dX3_armFor_8 : decode cX3_armFor 8 = .ok (.astore_n 3, 1) := by decide +kernel
theorem dX3_armFor_9 : decode cX3_armFor 9 = .ok (.aload_n 0, 1) := by decide +kernel
theorem dX3_armFor_10 : decode cX3_armFor 10 = .ok (.getfield 10, 3) := by decide +kernel
theorem dX3_armFor_13 : decode cX3_armFor 13 = .ok (.iload_n 2, 1) := by decide +kernel
theorem dX3_armFor_14 : decode cX3_armFor 14 = .ok (.invokevirtual 100, 3) := by decide +kernel
theorem dX3_armFor_17 : decode cX3_armFor 17 = .ok (.astore 4, 2) := by decide +kernel
theorem dX3_armFor_19 : decode cX3_armFor 19 = .ok (.aload_n 3, 1) := by decide +kernel
theorem dX3_armFor_20 : decode cX3_armFor 20 = .ok (.ifnull 8, 3) := by decide +kernel
theorem dX3_armFor_23 : decode cX3_armFor 23 = .ok (.aload 4, 2) := by decide +kernel
theorem dX3_armFor_25 : decode cX3_armFor 25 = .ok (.ifnonnull 6, 3) := by decide +kernel
theorem dX3_armFor_28 : decode cX3_armFor 28 = .ok (.ldc 35, 2) := by decide +kernel
theorem dX3_armFor_30 : decode cX3_armFor 30 = .ok (.ireturn, 1) := by decide +kernel
theorem dX3_armFor_31 : decode cX3_armFor 31 = .ok (.aload_n 3, 1) := by decide +kernel
theorem dX3_armFor_32 : decode cX3_armFor 32 = .ok (.getfield 169, 3) := by decide +kernel
theorem dX3_armFor_35 : decode cX3_armFor 35 = .ok (.aload 4, 2) := by decide +kernel
theorem dX3_armFor_37 : decode cX3_armFor 37 = .ok (.getfield 173, 3) := by decide +kernel
theorem dX3_armFor_40 : decode cX3_armFor 40 = .ok (.lmul, 1) := by decide +kernel
theorem dX3_armFor_41 : decode cX3_armFor 41 = .ok (.lstore 5, 2) := by decide +kernel
theorem dX3_armFor_43 : decode cX3_armFor 43 = .ok (.aload_n 3, 1) := by decide +kernel
theorem dX3_armFor_44 : decode cX3_armFor 44 = .ok (.getfield 173, 3) := by decide +kernel
theorem dX3_armFor_47 : decode cX3_armFor 47 = .ok (.aload 4, 2) := by decide +kernel
theorem dX3_armFor_49 : decode cX3_armFor 49 = .ok (.getfield 169, 3) := by decide +kernel
theorem dX3_armFor_52 : decode cX3_armFor 52 = .ok (.lmul, 1) := by decide +kernel
theorem dX3_armFor_53 : decode cX3_armFor 53 = .ok (.lstore 7, 2) := by decide +kernel
theorem dX3_armFor_55 : decode cX3_armFor 55 = .ok (.lload 5, 2) := by decide +kernel
theorem dX3_armFor_57 : decode cX3_armFor 57 = .ok (.lload 7, 2) := by decide +kernel
theorem dX3_armFor_59 : decode cX3_armFor 59 = .ok (.iconst 0, 1) := by decide +kernel
theorem dX3_armFor_60 : decode cX3_armFor 60 = .ok (.invokestatic 176, 3) := by decide +kernel
theorem dX3_armFor_63 : decode cX3_armFor 63 = .ok (.lstore 9, 2) := by decide +kernel
theorem dX3_armFor_65 : decode cX3_armFor 65 = .ok (.lload 5, 2) := by decide +kernel
theorem dX3_armFor_67 : decode cX3_armFor 67 = .ok (.lload 7, 2) := by decide +kernel
theorem dX3_armFor_69 : decode cX3_armFor 69 = .ok (.iconst 1, 1) := by decide +kernel
theorem dX3_armFor_70 : decode cX3_armFor 70 = .ok (.invokestatic 176, 3) := by decide +kernel
theorem dX3_armFor_73 : decode cX3_armFor 73 = .ok (.lstore 11, 2) := by decide +kernel
theorem dX3_armFor_75 : decode cX3_armFor 75 = .ok (.lload 9, 2) := by decide +kernel
theorem dX3_armFor_77 : decode cX3_armFor 77 = .ok (.ldc2_w 208, 3) := by decide +kernel
theorem dX3_armFor_80 : decode cX3_armFor 80 = .ok (.lcmp, 1) := by decide +kernel
theorem dX3_armFor_81 : decode cX3_armFor 81 = .ok (.ifCond .gt 12, 3) := by decide +kernel
theorem dX3_armFor_84 : decode cX3_armFor 84 = .ok (.lload 11, 2) := by decide +kernel
theorem dX3_armFor_86 : decode cX3_armFor 86 = .ok (.ldc2_w 208, 3) := by decide +kernel
theorem dX3_armFor_89 : decode cX3_armFor 89 = .ok (.lcmp, 1) := by decide +kernel
theorem dX3_armFor_90 : decode cX3_armFor 90 = .ok (.ifCond .le 8, 3) := by decide +kernel
theorem dX3_armFor_93 : decode cX3_armFor 93 = .ok (.ldc 136, 2) := by decide +kernel
theorem dX3_armFor_95 : decode cX3_armFor 95 = .ok (.goto 13, 3) := by decide +kernel
theorem dX3_armFor_98 : decode cX3_armFor 98 = .ok (.ldc2_w 210, 3) := by decide +kernel
theorem dX3_armFor_101 : decode cX3_armFor 101 = .ok (.lload 9, 2) := by decide +kernel
theorem dX3_armFor_103 : decode cX3_armFor 103 = .ok (.lmul, 1) := by decide +kernel
theorem dX3_armFor_104 : decode cX3_armFor 104 = .ok (.lload 11, 2) := by decide +kernel
theorem dX3_armFor_106 : decode cX3_armFor 106 = .ok (.ladd, 1) := by decide +kernel
theorem dX3_armFor_107 : decode cX3_armFor 107 = .ok (.l2i, 1) := by decide +kernel
theorem dX3_armFor_108 : decode cX3_armFor 108 = .ok (.ireturn, 1) := by decide +kernel
theorem dX3_undo_0 : decode cX3_undo 0 = .ok (.aload_n 0, 1) := by decide +kernel
theorem dX3_undo_1 : decode cX3_undo 1 = .ok (.getfield 20, 3) := by decide +kernel
theorem dX3_undo_4 : decode cX3_undo 4 = .ok (.iconst 1, 1) := by decide +kernel
theorem dX3_undo_5 : decode cX3_undo 5 = .ok (.isub, 1) := by decide +kernel
theorem dX3_undo_6 : decode cX3_undo 6 = .ok (.istore_n 1, 1) := by decide +kernel
theorem dX3_undo_7 : decode cX3_undo 7 = .ok (.iload_n 1, 1) := by decide +kernel
theorem dX3_undo_8 : decode cX3_undo 8 = .ok (.ifCond .lt 21, 3) := by decide +kernel
theorem dX3_undo_11 : decode cX3_undo 11 = .ok (.iload_n 1, 1) := by decide +kernel
theorem dX3_undo_12 : decode cX3_undo 12 = .ok (.aload_n 0, 1) := by decide +kernel
theorem dX3_undo_13 : decode cX3_undo 13 = .ok (.getfield 16, 3) := by decide +kernel
theorem dX3_undo_16 : decode cX3_undo 16 = .ok (.arraylength, 1) := by decide +kernel
theorem dX3_undo_17 : decode cX3_undo 17 = .ok (.if_icmp .ge 12, 3) := by decide +kernel
theorem dX3_undo_20 : decode cX3_undo 20 = .ok (.aload_n 0, 1) := by decide +kernel
theorem dX3_undo_21 : decode cX3_undo 21 = .ok (.getfield 16, 3) := by decide +kernel
theorem dX3_undo_24 : decode cX3_undo 24 = .ok (.iload_n 1, 1) := by decide +kernel
theorem dX3_undo_25 : decode cX3_undo 25 = .ok (.aaload, 1) := by decide +kernel
theorem dX3_undo_26 : decode cX3_undo 26 = .ok (.ifnonnull 6, 3) := by decide +kernel
theorem dX3_undo_29 : decode cX3_undo 29 = .ok (.ldc 113, 2) := by decide +kernel
theorem dX3_undo_31 : decode cX3_undo 31 = .ok (.ireturn, 1) := by decide +kernel
theorem dX3_undo_32 : decode cX3_undo 32 = .ok (.aload_n 0, 1) := by decide +kernel
theorem dX3_undo_33 : decode cX3_undo 33 = .ok (.getfield 16, 3) := by decide +kernel
theorem dX3_undo_36 : decode cX3_undo 36 = .ok (.iload_n 1, 1) := by decide +kernel
theorem dX3_undo_37 : decode cX3_undo 37 = .ok (.aaload, 1) := by decide +kernel
theorem dX3_undo_38 : decode cX3_undo 38 = .ok (.astore_n 2, 1) := by decide +kernel
theorem dX3_undo_39 : decode cX3_undo 39 = .ok (.aload_n 0, 1) := by decide +kernel
theorem dX3_undo_40 : decode cX3_undo 40 = .ok (.getfield 16, 3) := by decide +kernel
theorem dX3_undo_43 : decode cX3_undo 43 = .ok (.iload_n 1, 1) := by decide +kernel
theorem dX3_undo_44 : decode cX3_undo 44 = .ok (.aload_n 0, 1) := by decide +kernel
theorem dX3_undo_45 : decode cX3_undo 45 = .ok (.getfield 10, 3) := by decide +kernel
theorem dX3_undo_48 : decode cX3_undo 48 = .ok (.aastore, 1) := by decide +kernel
theorem dX3_undo_49 : decode cX3_undo 49 = .ok (.aload_n 0, 1) := by decide +kernel
theorem dX3_undo_50 : decode cX3_undo 50 = .ok (.aload_n 2, 1) := by decide +kernel
theorem dX3_undo_51 : decode cX3_undo 51 = .ok (.putfield 10, 3) := by decide +kernel
theorem dX3_undo_54 : decode cX3_undo 54 = .ok (.aload_n 0, 1) := by decide +kernel
theorem dX3_undo_55 : decode cX3_undo 55 = .ok (.iload_n 1, 1) := by decide +kernel
theorem dX3_undo_56 : decode cX3_undo 56 = .ok (.putfield 20, 3) := by decide +kernel
theorem dX3_undo_59 : decode cX3_undo 59 = .ok (.aload_n 0, 1) := by decide +kernel
theorem dX3_undo_60 : decode cX3_undo 60 = .ok (.getfield 20, 3) := by decide +kernel
theorem dX3_undo_63 : decode cX3_undo 63 = .ok (.ireturn, 1) := by decide +kernel
theorem dX3_type_0 : decode cX3_type 0 = .ok (.iload_n 1, 1) := by decide +kernel
theorem dX3_type_1 : decode cX3_type 1 = .ok (.bipush 32, 2) := by decide +kernel
theorem dX3_type_3 : decode cX3_type 3 = .ok (.bipush 126, 2) := by decide +kernel
theorem dX3_type_5 : decode cX3_type 5 = .ok (.invokestatic 31, 3) := by decide +kernel
theorem dX3_type_8 : decode cX3_type 8 = .ok (.ifCond .ne 6, 3) := by decide +kernel
theorem dX3_type_11 : decode cX3_type 11 = .ok (.ldc 35, 2) := by decide +kernel
theorem dX3_type_13 : decode cX3_type 13 = .ok (.ireturn, 1) := by decide +kernel
theorem dX3_type_14 : decode cX3_type 14 = .ok (.aload_n 0, 1) := by decide +kernel
theorem dX3_type_15 : decode cX3_type 15 = .ok (.getfield 27, 3) := by decide +kernel
theorem dX3_type_18 : decode cX3_type 18 = .ok (.iload_n 1, 1) := by decide +kernel
theorem dX3_type_19 : decode cX3_type 19 = .ok (.i2c, 1) := by decide +kernel
theorem dX3_type_20 : decode cX3_type 20 = .ok (.invokevirtual 212, 3) := by decide +kernel
theorem dX3_type_23 : decode cX3_type 23 = .ok (.ifCond .eq 13, 3) := by decide +kernel
theorem dX3_type_26 : decode cX3_type 26 = .ok (.aload_n 0, 1) := by decide +kernel
theorem dX3_type_27 : decode cX3_type 27 = .ok (.getfield 27, 3) := by decide +kernel
theorem dX3_type_30 : decode cX3_type 30 = .ok (.getfield 88, 3) := by decide +kernel
theorem dX3_type_33 : decode cX3_type 33 = .ok (.goto 5, 3) := by decide +kernel
theorem dX3_type_36 : decode cX3_type 36 = .ok (.ldc 91, 2) := by decide +kernel
theorem dX3_type_38 : decode cX3_type 38 = .ok (.ireturn, 1) := by decide +kernel
theorem dX3_clearText_0 : decode cX3_clearText 0 = .ok (.aload_n 0, 1) := by decide +kernel
theorem dX3_clearText_1 : decode cX3_clearText 1 = .ok (.getfield 27, 3) := by decide +kernel
theorem dX3_clearText_4 : decode cX3_clearText 4 = .ok (.getfield 88, 3) := by decide +kernel
theorem dX3_clearText_7 : decode cX3_clearText 7 = .ok (.istore_n 1, 1) := by decide +kernel
theorem dX3_clearText_8 : decode cX3_clearText 8 = .ok (.aload_n 0, 1) := by decide +kernel
theorem dX3_clearText_9 : decode cX3_clearText 9 = .ok (.getfield 27, 3) := by decide +kernel
theorem dX3_clearText_12 : decode cX3_clearText 12 = .ok (.iconst 0, 1) := by decide +kernel
theorem dX3_clearText_13 : decode cX3_clearText 13 = .ok (.putfield 88, 3) := by decide +kernel
theorem dX3_clearText_16 : decode cX3_clearText 16 = .ok (.iload_n 1, 1) := by decide +kernel
theorem dX3_clearText_17 : decode cX3_clearText 17 = .ok (.ireturn, 1) := by decide +kernel
theorem dX3_fault_0 : decode cX3_fault 0 = .ok (.iload_n 1, 1) := by decide +kernel
theorem dX3_fault_1 : decode cX3_fault 1 = .ok (.iconst 0, 1) := by decide +kernel
theorem dX3_fault_2 : decode cX3_fault 2 = .ok (.iconst 1, 1) := by decide +kernel
theorem dX3_fault_3 : decode cX3_fault 3 = .ok (.invokestatic 31, 3) := by decide +kernel
theorem dX3_fault_6 : decode cX3_fault 6 = .ok (.ifCond .ne 6, 3) := by decide +kernel
theorem dX3_fault_9 : decode cX3_fault 9 = .ok (.ldc 35, 2) := by decide +kernel
theorem dX3_fault_11 : decode cX3_fault 11 = .ok (.ireturn, 1) := by decide +kernel
theorem dX3_fault_12 : decode cX3_fault 12 = .ok (.aload_n 0, 1) := by decide +kernel
theorem dX3_fault_13 : decode cX3_fault 13 = .ok (.getfield 27, 3) := by decide +kernel
theorem dX3_fault_16 : decode cX3_fault 16 = .ok (.invokevirtual 216, 3) := by decide +kernel
theorem dX3_fault_19 : decode cX3_fault 19 = .ok (.ifCond .ne 6, 3) := by decide +kernel
theorem dX3_fault_22 : decode cX3_fault 22 = .ok (.ldc 136, 2) := by decide +kernel
theorem dX3_fault_24 : decode cX3_fault 24 = .ok (.ireturn, 1) := by decide +kernel
theorem dX3_fault_25 : decode cX3_fault 25 = .ok (.iload_n 1, 1) := by decide +kernel
theorem dX3_fault_26 : decode cX3_fault 26 = .ok (.ifCond .ne 13, 3) := by decide +kernel
theorem dX3_fault_29 : decode cX3_fault 29 = .ok (.aload_n 0, 1) := by decide +kernel
theorem dX3_fault_30 : decode cX3_fault 30 = .ok (.getfield 27, 3) := by decide +kernel
theorem dX3_fault_33 : decode cX3_fault 33 = .ok (.getfield 219, 3) := by decide +kernel
theorem dX3_fault_36 : decode cX3_fault 36 = .ok (.goto 10, 3) := by decide +kernel
theorem dX3_fault_39 : decode cX3_fault 39 = .ok (.aload_n 0, 1) := by decide +kernel
theorem dX3_fault_40 : decode cX3_fault 40 = .ok (.getfield 27, 3) := by decide +kernel
theorem dX3_fault_43 : decode cX3_fault 43 = .ok (.getfield 222, 3) := by decide +kernel
theorem dX3_fault_46 : decode cX3_fault 46 = .ok (.ireturn, 1) := by decide +kernel
theorem dX3_read_0 : decode cX3_read 0 = .ok (.aload_n 0, 1) := by decide +kernel
theorem dX3_read_1 : decode cX3_read 1 = .ok (.getfield 27, 3) := by decide +kernel
theorem dX3_read_4 : decode cX3_read 4 = .ok (.invokevirtual 216, 3) := by decide +kernel
theorem dX3_read_7 : decode cX3_read 7 = .ok (.ifCond .eq 6, 3) := by decide +kernel
theorem dX3_read_10 : decode cX3_read 10 = .ok (.ldc 113, 2) := by decide +kernel
theorem dX3_read_12 : decode cX3_read 12 = .ok (.ireturn, 1) := by decide +kernel
theorem dX3_read_13 : decode cX3_read 13 = .ok (.aload_n 0, 1) := by decide +kernel
theorem dX3_read_14 : decode cX3_read 14 = .ok (.getfield 10, 3) := by decide +kernel
theorem dX3_read_17 : decode cX3_read 17 = .ok (.invokevirtual 92, 3) := by decide +kernel
theorem dX3_read_20 : decode cX3_read 20 = .ok (.astore_n 1, 1) := by decide +kernel
theorem dX3_read_21 : decode cX3_read 21 = .ok (.aload_n 1, 1) := by decide +kernel
theorem dX3_read_22 : decode cX3_read 22 = .ok (.ifnonnull 6, 3) := by decide +kernel
theorem dX3_read_25 : decode cX3_read 25 = .ok (.ldc 91, 2) := by decide +kernel
theorem dX3_read_27 : decode cX3_read 27 = .ok (.ireturn, 1) := by decide +kernel
theorem dX3_read_28 : decode cX3_read 28 = .ok (.aload_n 0, 1) := by decide +kernel
theorem dX3_read_29 : decode cX3_read 29 = .ok (.invokevirtual 42, 3) := by decide +kernel
theorem dX3_read_32 : decode cX3_read 32 = .ok (.aload_n 0, 1) := by decide +kernel
theorem dX3_read_33 : decode cX3_read 33 = .ok (.getfield 10, 3) := by decide +kernel
theorem dX3_read_36 : decode cX3_read 36 = .ok (.invokevirtual 96, 3) := by decide +kernel
theorem dX3_read_39 : decode cX3_read 39 = .ok (.istore_n 2, 1) := by decide +kernel
theorem dX3_read_40 : decode cX3_read 40 = .ok (.aload_n 0, 1) := by decide +kernel
theorem dX3_read_41 : decode cX3_read 41 = .ok (.getfield 27, 3) := by decide +kernel
theorem dX3_read_44 : decode cX3_read 44 = .ok (.aload_n 1, 1) := by decide +kernel
theorem dX3_read_45 : decode cX3_read 45 = .ok (.invokevirtual 225, 3) := by decide +kernel
theorem dX3_read_48 : decode cX3_read 48 = .ok (.iload_n 2, 1) := by decide +kernel
theorem dX3_read_49 : decode cX3_read 49 = .ok (.ireturn, 1) := by decide +kernel
theorem dX3_remember_0 : decode cX3_remember 0 = .ok (.aload_n 0, 1) := by decide +kernel
theorem dX3_remember_1 : decode cX3_remember 1 = .ok (.getfield 20, 3) := by decide +kernel
theorem dX3_remember_4 : decode cX3_remember 4 = .ok (.aload_n 0, 1) := by decide +kernel
theorem dX3_remember_5 : decode cX3_remember 5 = .ok (.getfield 16, 3) := by decide +kernel
theorem dX3_remember_8 : decode cX3_remember 8 = .ok (.arraylength, 1) := by decide +kernel
theorem dX3_remember_9 : decode cX3_remember 9 = .ok (.if_icmp .lt 7, 3) := by decide +kernel
theorem dX3_remember_12 : decode cX3_remember 12 = .ok (.aload_n 0, 1) := by decide +kernel
theorem dX3_remember_13 : decode cX3_remember 13 = .ok (.invokevirtual 229, 3) := by decide +kernel
theorem dX3_remember_16 : decode cX3_remember 16 = .ok (.aload_n 0, 1) := by decide +kernel
theorem dX3_remember_17 : decode cX3_remember 17 = .ok (.getfield 20, 3) := by decide +kernel
theorem dX3_remember_20 : decode cX3_remember 20 = .ok (.ifCond .lt 53, 3) := by decide +kernel
theorem dX3_remember_23 : decode cX3_remember 23 = .ok (.aload_n 0, 1) := by decide +kernel
theorem dX3_remember_24 : decode cX3_remember 24 = .ok (.getfield 20, 3) := by decide +kernel
theorem dX3_remember_27 : decode cX3_remember 27 = .ok (.aload_n 0, 1) := by decide +kernel
theorem dX3_remember_28 : decode cX3_remember 28 = .ok (.getfield 16, 3) := by decide +kernel
theorem dX3_remember_31 : decode cX3_remember 31 = .ok (.arraylength, 1) := by decide +kernel
theorem dX3_remember_32 : decode cX3_remember 32 = .ok (.if_icmp .ge 41, 3) := by decide +kernel
theorem dX3_remember_35 : decode cX3_remember 35 = .ok (.aload_n 0, 1) := by decide +kernel
theorem dX3_remember_36 : decode cX3_remember 36 = .ok (.getfield 16, 3) := by decide +kernel
theorem dX3_remember_39 : decode cX3_remember 39 = .ok (.aload_n 0, 1) := by decide +kernel
theorem dX3_remember_40 : decode cX3_remember 40 = .ok (.getfield 20, 3) := by decide +kernel
theorem dX3_remember_43 : decode cX3_remember 43 = .ok (.aaload, 1) := by decide +kernel
theorem dX3_remember_44 : decode cX3_remember 44 = .ok (.ifnull 29, 3) := by decide +kernel
theorem dX3_remember_47 : decode cX3_remember 47 = .ok (.aload_n 0, 1) := by decide +kernel
theorem dX3_remember_48 : decode cX3_remember 48 = .ok (.getfield 16, 3) := by decide +kernel
theorem dX3_remember_51 : decode cX3_remember 51 = .ok (.aload_n 0, 1) := by decide +kernel
theorem dX3_remember_52 : decode cX3_remember 52 = .ok (.getfield 20, 3) := by decide +kernel
theorem dX3_remember_55 : decode cX3_remember 55 = .ok (.aaload, 1) := by decide +kernel
theorem dX3_remember_56 : decode cX3_remember 56 = .ok (.aload_n 0, 1) := by decide +kernel
theorem dX3_remember_57 : decode cX3_remember 57 = .ok (.getfield 10, 3) := by decide +kernel
theorem dX3_remember_60 : decode cX3_remember 60 = .ok (.invokevirtual 232, 3) := by decide +kernel
theorem dX3_remember_63 : decode cX3_remember 63 = .ok (.aload_n 0, 1) := by decide +kernel
theorem dX3_remember_64 : decode cX3_remember 64 = .ok (.dup, 1) := by decide +kernel
theorem dX3_remember_65 : decode cX3_remember 65 = .ok (.getfield 20, 3) := by decide +kernel
theorem dX3_remember_68 : decode cX3_remember 68 = .ok (.iconst 1, 1) := by decide +kernel
theorem dX3_remember_69 : decode cX3_remember 69 = .ok (.iadd, 1) := by decide +kernel
theorem dX3_remember_70 : decode cX3_remember 70 = .ok (.putfield 20, 3) := by decide +kernel
theorem dX3_remember_73 : decode cX3_remember 73 = .ok (.return_, 1) := by decide +kernel
theorem dX3_dropOldest_0 : decode cX3_dropOldest 0 = .ok (.aload_n 0, 1) := by decide +kernel
theorem dX3_dropOldest_1 : decode cX3_dropOldest 1 = .ok (.getfield 16, 3) := by decide +kernel
theorem dX3_dropOldest_4 : decode cX3_dropOldest 4 = .ok (.arraylength, 1) := by decide +kernel
theorem dX3_dropOldest_5 : decode cX3_dropOldest 5 = .ok (.iconst 1, 1) := by decide +kernel
theorem dX3_dropOldest_6 : decode cX3_dropOldest 6 = .ok (.if_icmp .ge 4, 3) := by decide +kernel
theorem dX3_dropOldest_9 : decode cX3_dropOldest 9 = .ok (.return_, 1) := by decide +kernel
theorem dX3_dropOldest_10 : decode cX3_dropOldest 10 = .ok (.aload_n 0, 1) := by decide +kernel
theorem dX3_dropOldest_11 : decode cX3_dropOldest 11 = .ok (.getfield 16, 3) := by decide +kernel
theorem dX3_dropOldest_14 : decode cX3_dropOldest 14 = .ok (.iconst 0, 1) := by decide +kernel
theorem dX3_dropOldest_15 : decode cX3_dropOldest 15 = .ok (.aaload, 1) := by decide +kernel
theorem dX3_dropOldest_16 : decode cX3_dropOldest 16 = .ok (.astore_n 1, 1) := by decide +kernel
theorem dX3_dropOldest_17 : decode cX3_dropOldest 17 = .ok (.iconst 1, 1) := by decide +kernel
theorem dX3_dropOldest_18 : decode cX3_dropOldest 18 = .ok (.istore_n 2, 1) := by decide +kernel
theorem dX3_dropOldest_19 : decode cX3_dropOldest 19 = .ok (.iload_n 2, 1) := by decide +kernel
theorem dX3_dropOldest_20 : decode cX3_dropOldest 20 = .ok (.aload_n 0, 1) := by decide +kernel
theorem dX3_dropOldest_21 : decode cX3_dropOldest 21 = .ok (.getfield 16, 3) := by decide +kernel
theorem dX3_dropOldest_24 : decode cX3_dropOldest 24 = .ok (.arraylength, 1) := by decide +kernel
theorem dX3_dropOldest_25 : decode cX3_dropOldest 25 = .ok (.if_icmp .ge 23, 3) := by decide +kernel
theorem dX3_dropOldest_28 : decode cX3_dropOldest 28 = .ok (.aload_n 0, 1) := by decide +kernel
theorem dX3_dropOldest_29 : decode cX3_dropOldest 29 = .ok (.getfield 16, 3) := by decide +kernel
theorem dX3_dropOldest_32 : decode cX3_dropOldest 32 = .ok (.iload_n 2, 1) := by decide +kernel
theorem dX3_dropOldest_33 : decode cX3_dropOldest 33 = .ok (.iconst 1, 1) := by decide +kernel
end
section
theorem dX3_dropOldest_34 : decode cX3_dropOldest 34 = .ok (.isub, 1) := by decide +kernel
theorem dX3_dropOldest_35 : decode cX3_dropOldest 35 = .ok (.aload_n 0, 1) := by decide +kernel
theorem dX3_dropOldest_36 : decode cX3_dropOldest 36 = .ok (.getfield 16, 3) := by decide +kernel
theorem dX3_dropOldest_39 : decode cX3_dropOldest 39 = .ok (.iload_n 2, 1) := by decide +kernel
theorem dX3_dropOldest_40 : decode cX3_dropOldest 40 = .ok (.aaload, 1) := by decide +kernel
theorem dX3_dropOldest_41 : decode cX3_dropOldest 41 = .ok (.aastore, 1) := by decide +kernel
theorem dX3_dropOldest_42 : decode cX3_dropOldest 42 = .ok (.iinc 2 1, 3) := by decide +kernel
theorem dX3_dropOldest_45 : decode cX3_dropOldest 45 = .ok (.goto (-26), 3) := by decide +kernel
theorem dX3_dropOldest_48 : decode cX3_dropOldest 48 = .ok (.aload_n 0, 1) := by decide +kernel
theorem dX3_dropOldest_49 : decode cX3_dropOldest 49 = .ok (.getfield 16, 3) := by decide +kernel
theorem dX3_dropOldest_52 : decode cX3_dropOldest 52 = .ok (.aload_n 0, 1) := by decide +kernel
theorem dX3_dropOldest_53 : decode cX3_dropOldest 53 = .ok (.getfield 16, 3) := by decide +kernel
theorem dX3_dropOldest_56 : decode cX3_dropOldest 56 = .ok (.arraylength, 1) := by decide +kernel
theorem dX3_dropOldest_57 : decode cX3_dropOldest 57 = .ok (.iconst 1, 1) := by decide +kernel
theorem dX3_dropOldest_58 : decode cX3_dropOldest 58 = .ok (.isub, 1) := by decide +kernel
theorem dX3_dropOldest_59 : decode cX3_dropOldest 59 = .ok (.aload_n 1, 1) := by decide +kernel
theorem dX3_dropOldest_60 : decode cX3_dropOldest 60 = .ok (.aastore, 1) := by decide +kernel
theorem dX3_dropOldest_61 : decode cX3_dropOldest 61 = .ok (.aload_n 0, 1) := by decide +kernel
theorem dX3_dropOldest_62 : decode cX3_dropOldest 62 = .ok (.aload_n 0, 1) := by decide +kernel
theorem dX3_dropOldest_63 : decode cX3_dropOldest 63 = .ok (.getfield 16, 3) := by decide +kernel
theorem dX3_dropOldest_66 : decode cX3_dropOldest 66 = .ok (.arraylength, 1) := by decide +kernel
theorem dX3_dropOldest_67 : decode cX3_dropOldest 67 = .ok (.iconst 1, 1) := by decide +kernel
theorem dX3_dropOldest_68 : decode cX3_dropOldest 68 = .ok (.isub, 1) := by decide +kernel
theorem dX3_dropOldest_69 : decode cX3_dropOldest 69 = .ok (.putfield 20, 3) := by decide +kernel
theorem dX3_dropOldest_72 : decode cX3_dropOldest 72 = .ok (.return_, 1) := by decide +kernel
theorem dX3_isWithin_0 : decode cX3_isWithin 0 = .ok (.iload_n 0, 1) := by decide +kernel
theorem dX3_isWithin_1 : decode cX3_isWithin 1 = .ok (.iload_n 1, 1) := by decide +kernel
theorem dX3_isWithin_2 : decode cX3_isWithin 2 = .ok (.if_icmp .lt 12, 3) := by decide +kernel
theorem dX3_isWithin_5 : decode cX3_isWithin 5 = .ok (.iload_n 0, 1) := by decide +kernel
theorem dX3_isWithin_6 : decode cX3_isWithin 6 = .ok (.iload_n 2, 1) := by decide +kernel
theorem dX3_isWithin_7 : decode cX3_isWithin 7 = .ok (.if_icmp .gt 7, 3) := by decide +kernel
theorem dX3_isWithin_10 : decode cX3_isWithin 10 = .ok (.iconst 1, 1) := by decide +kernel
theorem dX3_isWithin_11 : decode cX3_isWithin 11 = .ok (.goto 4, 3) := by decide +kernel
theorem dX3_isWithin_14 : decode cX3_isWithin 14 = .ok (.iconst 0, 1) := by decide +kernel
theorem dX3_isWithin_15 : decode cX3_isWithin 15 = .ok (.ireturn, 1) := by decide +kernel
theorem dX3_greatestDivisor_0 : decode cX3_greatestDivisor 0 = .ok (.lload_n 0, 1) := by decide +kernel
theorem dX3_greatestDivisor_1 : decode cX3_greatestDivisor 1 = .ok (.lstore 4, 2) := by decide +kernel
theorem dX3_greatestDivisor_3 : decode cX3_greatestDivisor 3 = .ok (.lload_n 2, 1) := by decide +kernel
theorem dX3_greatestDivisor_4 : decode cX3_greatestDivisor 4 = .ok (.lstore 6, 2) := by decide +kernel
theorem dX3_greatestDivisor_6 : decode cX3_greatestDivisor 6 = .ok (.iconst 0, 1) := by decide +kernel
theorem dX3_greatestDivisor_7 : decode cX3_greatestDivisor 7 = .ok (.istore 8, 2) := by decide +kernel
theorem dX3_greatestDivisor_9 : decode cX3_greatestDivisor 9 = .ok (.iload 8, 2) := by decide +kernel
theorem dX3_greatestDivisor_11 : decode cX3_greatestDivisor 11 = .ok (.bipush 100, 2) := by decide +kernel
theorem dX3_greatestDivisor_13 : decode cX3_greatestDivisor 13 = .ok (.if_icmp .ge 31, 3) := by decide +kernel
theorem dX3_greatestDivisor_16 : decode cX3_greatestDivisor 16 = .ok (.lload 6, 2) := by decide +kernel
theorem dX3_greatestDivisor_18 : decode cX3_greatestDivisor 18 = .ok (.lconst 0, 1) := by decide +kernel
theorem dX3_greatestDivisor_19 : decode cX3_greatestDivisor 19 = .ok (.lcmp, 1) := by decide +kernel
theorem dX3_greatestDivisor_20 : decode cX3_greatestDivisor 20 = .ok (.ifCond .le 24, 3) := by decide +kernel
theorem dX3_greatestDivisor_23 : decode cX3_greatestDivisor 23 = .ok (.lload 4, 2) := by decide +kernel
theorem dX3_greatestDivisor_25 : decode cX3_greatestDivisor 25 = .ok (.lload 6, 2) := by decide +kernel
theorem dX3_greatestDivisor_27 : decode cX3_greatestDivisor 27 = .ok (.lrem, 1) := by decide +kernel
theorem dX3_greatestDivisor_28 : decode cX3_greatestDivisor 28 = .ok (.lstore 9, 2) := by decide +kernel
theorem dX3_greatestDivisor_30 : decode cX3_greatestDivisor 30 = .ok (.lload 6, 2) := by decide +kernel
theorem dX3_greatestDivisor_32 : decode cX3_greatestDivisor 32 = .ok (.lstore 4, 2) := by decide +kernel
theorem dX3_greatestDivisor_34 : decode cX3_greatestDivisor 34 = .ok (.lload 9, 2) := by decide +kernel
theorem dX3_greatestDivisor_36 : decode cX3_greatestDivisor 36 = .ok (.lstore 6, 2) := by decide +kernel
theorem dX3_greatestDivisor_38 : decode cX3_greatestDivisor 38 = .ok (.iinc 8 1, 3) := by decide +kernel
theorem dX3_greatestDivisor_41 : decode cX3_greatestDivisor 41 = .ok (.goto (-32), 3) := by decide +kernel
theorem dX3_greatestDivisor_44 : decode cX3_greatestDivisor 44 = .ok (.lload 4, 2) := by decide +kernel
theorem dX3_greatestDivisor_46 : decode cX3_greatestDivisor 46 = .ok (.lreturn, 1) := by decide +kernel
theorem dX3_lowest_0 : decode cX3_lowest 0 = .ok (.iload 4, 2) := by decide +kernel
theorem dX3_lowest_2 : decode cX3_lowest 2 = .ok (.ifCond .ne 7, 3) := by decide +kernel
theorem dX3_lowest_5 : decode cX3_lowest 5 = .ok (.lload_n 0, 1) := by decide +kernel
theorem dX3_lowest_6 : decode cX3_lowest 6 = .ok (.goto 4, 3) := by decide +kernel
theorem dX3_lowest_9 : decode cX3_lowest 9 = .ok (.lload_n 2, 1) := by decide +kernel
theorem dX3_lowest_10 : decode cX3_lowest 10 = .ok (.lstore 5, 2) := by decide +kernel
theorem dX3_lowest_12 : decode cX3_lowest 12 = .ok (.lload_n 0, 1) := by decide +kernel
theorem dX3_lowest_13 : decode cX3_lowest 13 = .ok (.invokestatic 236, 3) := by decide +kernel
theorem dX3_lowest_16 : decode cX3_lowest 16 = .ok (.lload_n 2, 1) := by decide +kernel
theorem dX3_lowest_17 : decode cX3_lowest 17 = .ok (.invokestatic 241, 3) := by decide +kernel
theorem dX3_lowest_20 : decode cX3_lowest 20 = .ok (.lstore 7, 2) := by decide +kernel
theorem dX3_lowest_22 : decode cX3_lowest 22 = .ok (.lload 7, 2) := by decide +kernel
theorem dX3_lowest_24 : decode cX3_lowest 24 = .ok (.lconst 1, 1) := by decide +kernel
theorem dX3_lowest_25 : decode cX3_lowest 25 = .ok (.lcmp, 1) := by decide +kernel
theorem dX3_lowest_26 : decode cX3_lowest 26 = .ok (.ifCond .le 11, 3) := by decide +kernel
theorem dX3_lowest_29 : decode cX3_lowest 29 = .ok (.lload 5, 2) := by decide +kernel
theorem dX3_lowest_31 : decode cX3_lowest 31 = .ok (.lload 7, 2) := by decide +kernel
theorem dX3_lowest_33 : decode cX3_lowest 33 = .ok (.ldiv, 1) := by decide +kernel
theorem dX3_lowest_34 : decode cX3_lowest 34 = .ok (.goto 5, 3) := by decide +kernel
theorem dX3_lowest_37 : decode cX3_lowest 37 = .ok (.lload 5, 2) := by decide +kernel
theorem dX3_lowest_39 : decode cX3_lowest 39 = .ok (.lreturn, 1) := by decide +kernel
theorem dX3_quotient_0 : decode cX3_quotient 0 = .ok (.lload_n 2, 1) := by decide +kernel
theorem dX3_quotient_1 : decode cX3_quotient 1 = .ok (.lconst 0, 1) := by decide +kernel
theorem dX3_quotient_2 : decode cX3_quotient 2 = .ok (.lcmp, 1) := by decide +kernel
theorem dX3_quotient_3 : decode cX3_quotient 3 = .ok (.ifCond .le 9, 3) := by decide +kernel
theorem dX3_quotient_6 : decode cX3_quotient 6 = .ok (.lload_n 0, 1) := by decide +kernel
theorem dX3_quotient_7 : decode cX3_quotient 7 = .ok (.lload_n 2, 1) := by decide +kernel
theorem dX3_quotient_8 : decode cX3_quotient 8 = .ok (.ldiv, 1) := by decide +kernel
theorem dX3_quotient_9 : decode cX3_quotient 9 = .ok (.goto 4, 3) := by decide +kernel
theorem dX3_quotient_12 : decode cX3_quotient 12 = .ok (.lconst 0, 1) := by decide +kernel
theorem dX3_quotient_13 : decode cX3_quotient 13 = .ok (.lreturn, 1) := by decide +kernel
theorem dX3_floatBits_0 : decode cX3_floatBits 0 = .ok (.fload_n 0, 1) := by decide +kernel
theorem dX3_floatBits_1 : decode cX3_floatBits 1 = .ok (.fstore_n 1, 1) := by decide +kernel
theorem dX3_floatBits_2 : decode cX3_floatBits 2 = .ok (.iconst 0, 1) := by decide +kernel
theorem dX3_floatBits_3 : decode cX3_floatBits 3 = .ok (.istore_n 2, 1) := by decide +kernel
theorem dX3_floatBits_4 : decode cX3_floatBits 4 = .ok (.iconst 0, 1) := by decide +kernel
theorem dX3_floatBits_5 : decode cX3_floatBits 5 = .ok (.istore_n 3, 1) := by decide +kernel
theorem dX3_floatBits_6 : decode cX3_floatBits 6 = .ok (.iload_n 3, 1) := by decide +kernel
theorem dX3_floatBits_7 : decode cX3_floatBits 7 = .ok (.bipush 60, 2) := by decide +kernel
theorem dX3_floatBits_9 : decode cX3_floatBits 9 = .ok (.if_icmp .ge 22, 3) := by decide +kernel
theorem dX3_floatBits_12 : decode cX3_floatBits 12 = .ok (.fload_n 1, 1) := by decide +kernel
theorem dX3_floatBits_13 : decode cX3_floatBits 13 = .ok (.fconst 2, 1) := by decide +kernel
theorem dX3_floatBits_14 : decode cX3_floatBits 14 = .ok (.fcmp .l, 1) := by decide +kernel
theorem dX3_floatBits_15 : decode cX3_floatBits 15 = .ok (.ifCond .lt 16, 3) := by decide +kernel
theorem dX3_floatBits_18 : decode cX3_floatBits 18 = .ok (.fload_n 1, 1) := by decide +kernel
theorem dX3_floatBits_19 : decode cX3_floatBits 19 = .ok (.fconst 2, 1) := by decide +kernel
theorem dX3_floatBits_20 : decode cX3_floatBits 20 = .ok (.fdiv, 1) := by decide +kernel
theorem dX3_floatBits_21 : decode cX3_floatBits 21 = .ok (.fstore_n 1, 1) := by decide +kernel
theorem dX3_floatBits_22 : decode cX3_floatBits 22 = .ok (.iinc 2 1, 3) := by decide +kernel
theorem dX3_floatBits_25 : decode cX3_floatBits 25 = .ok (.iinc 3 1, 3) := by decide +kernel
theorem dX3_floatBits_28 : decode cX3_floatBits 28 = .ok (.goto (-22), 3) := by decide +kernel
theorem dX3_floatBits_31 : decode cX3_floatBits 31 = .ok (.iconst 0, 1) := by decide +kernel
theorem dX3_floatBits_32 : decode cX3_floatBits 32 = .ok (.istore_n 3, 1) := by decide +kernel
theorem dX3_floatBits_33 : decode cX3_floatBits 33 = .ok (.iload_n 3, 1) := by decide +kernel
theorem dX3_floatBits_34 : decode cX3_floatBits 34 = .ok (.bipush 60, 2) := by decide +kernel
theorem dX3_floatBits_36 : decode cX3_floatBits 36 = .ok (.if_icmp .ge 22, 3) := by decide +kernel
theorem dX3_floatBits_39 : decode cX3_floatBits 39 = .ok (.fload_n 1, 1) := by decide +kernel
theorem dX3_floatBits_40 : decode cX3_floatBits 40 = .ok (.fconst 1, 1) := by decide +kernel
theorem dX3_floatBits_41 : decode cX3_floatBits 41 = .ok (.fcmp .g, 1) := by decide +kernel
theorem dX3_floatBits_42 : decode cX3_floatBits 42 = .ok (.ifCond .ge 16, 3) := by decide +kernel
theorem dX3_floatBits_45 : decode cX3_floatBits 45 = .ok (.fload_n 1, 1) := by decide +kernel
theorem dX3_floatBits_46 : decode cX3_floatBits 46 = .ok (.fconst 2, 1) := by decide +kernel
theorem dX3_floatBits_47 : decode cX3_floatBits 47 = .ok (.fmul, 1) := by decide +kernel
theorem dX3_floatBits_48 : decode cX3_floatBits 48 = .ok (.fstore_n 1, 1) := by decide +kernel
theorem dX3_floatBits_49 : decode cX3_floatBits 49 = .ok (.iinc 2 (-1), 3) := by decide +kernel
theorem dX3_floatBits_52 : decode cX3_floatBits 52 = .ok (.iinc 3 1, 3) := by decide +kernel
theorem dX3_floatBits_55 : decode cX3_floatBits 55 = .ok (.goto (-22), 3) := by decide +kernel
theorem dX3_floatBits_58 : decode cX3_floatBits 58 = .ok (.iload_n 2, 1) := by decide +kernel
theorem dX3_floatBits_59 : decode cX3_floatBits 59 = .ok (.bipush 127, 2) := by decide +kernel
theorem dX3_floatBits_61 : decode cX3_floatBits 61 = .ok (.iadd, 1) := by decide +kernel
theorem dX3_floatBits_62 : decode cX3_floatBits 62 = .ok (.bipush 23, 2) := by decide +kernel
theorem dX3_floatBits_64 : decode cX3_floatBits 64 = .ok (.ishl, 1) := by decide +kernel
theorem dX3_floatBits_65 : decode cX3_floatBits 65 = .ok (.fload_n 1, 1) := by decide +kernel
theorem dX3_floatBits_66 : decode cX3_floatBits 66 = .ok (.fconst 1, 1) := by decide +kernel
theorem dX3_floatBits_67 : decode cX3_floatBits 67 = .ok (.fsub, 1) := by decide +kernel
theorem dX3_floatBits_68 : decode cX3_floatBits 68 = .ok (.ldc 245, 2) := by decide +kernel
theorem dX3_floatBits_70 : decode cX3_floatBits 70 = .ok (.fmul, 1) := by decide +kernel
theorem dX3_floatBits_71 : decode cX3_floatBits 71 = .ok (.f2i, 1) := by decide +kernel
theorem dX3_floatBits_72 : decode cX3_floatBits 72 = .ok (.iadd, 1) := by decide +kernel
theorem dX3_floatBits_73 : decode cX3_floatBits 73 = .ok (.ireturn, 1) := by decide +kernel
end
section
theorem dX4_init_0 : decode cX4_init 0 = .ok (.aload_n 0, 1) := by decide +kernel
theorem dX4_init_1 : decode cX4_init 1 = .ok (.invokespecial 1, 3) := by decide +kernel
theorem dX4_init_4 : decode cX4_init 4 = .ok (.aload_n 0, 1) := by decide +kernel
theorem dX4_init_5 : decode cX4_init 5 = .ok (.sipush 915, 3) := by decide +kernel
theorem dX4_init_8 : decode cX4_init 8 = .ok (.newarray .long, 2) := by decide +kernel
theorem dX4_init_10 : decode cX4_init 10 = .ok (.putfield 7, 3) := by decide +kernel
theorem dX4_init_13 : decode cX4_init 13 = .ok (.aload_n 0, 1) := by decide +kernel
theorem dX4_init_14 : decode cX4_init 14 = .ok (.sipush 915, 3) := by decide +kernel
theorem dX4_init_17 : decode cX4_init 17 = .ok (.newarray .long, 2) := by decide +kernel
theorem dX4_init_19 : decode cX4_init 19 = .ok (.putfield 13, 3) := by decide +kernel
theorem dX4_init_22 : decode cX4_init 22 = .ok (.aload_n 0, 1) := by decide +kernel
theorem dX4_init_23 : decode cX4_init 23 = .ok (.sipush 3660, 3) := by decide +kernel
theorem dX4_init_26 : decode cX4_init 26 = .ok (.newarray .long, 2) := by decide +kernel
theorem dX4_init_28 : decode cX4_init 28 = .ok (.putfield 16, 3) := by decide +kernel
theorem dX4_init_31 : decode cX4_init 31 = .ok (.aload_n 0, 1) := by decide +kernel
theorem dX4_init_32 : decode cX4_init 32 = .ok (.bipush 100, 2) := by decide +kernel
theorem dX4_init_34 : decode cX4_init 34 = .ok (.newarray .int, 2) := by decide +kernel
theorem dX4_init_36 : decode cX4_init 36 = .ok (.putfield 19, 3) := by decide +kernel
theorem dX4_init_39 : decode cX4_init 39 = .ok (.aload_n 0, 1) := by decide +kernel
theorem dX4_init_40 : decode cX4_init 40 = .ok (.bipush 60, 2) := by decide +kernel
theorem dX4_init_42 : decode cX4_init 42 = .ok (.newarray .int, 2) := by decide +kernel
theorem dX4_init_44 : decode cX4_init 44 = .ok (.putfield 23, 3) := by decide +kernel
theorem dX4_init_47 : decode cX4_init 47 = .ok (.aload_n 0, 1) := by decide +kernel
theorem dX4_init_48 : decode cX4_init 48 = .ok (.getfield 7, 3) := by decide +kernel
theorem dX4_init_51 : decode cX4_init 51 = .ok (.iconst 0, 1) := by decide +kernel
theorem dX4_init_52 : decode cX4_init 52 = .ok (.lconst 1, 1) := by decide +kernel
theorem dX4_init_53 : decode cX4_init 53 = .ok (.lastore, 1) := by decide +kernel
theorem dX4_init_54 : decode cX4_init 54 = .ok (.aload_n 0, 1) := by decide +kernel
theorem dX4_init_55 : decode cX4_init 55 = .ok (.getfield 7, 3) := by decide +kernel
theorem dX4_init_58 : decode cX4_init 58 = .ok (.iconst 1, 1) := by decide +kernel
theorem dX4_init_59 : decode cX4_init 59 = .ok (.lconst 1, 1) := by decide +kernel
theorem dX4_init_60 : decode cX4_init 60 = .ok (.lastore, 1) := by decide +kernel
theorem dX4_init_61 : decode cX4_init 61 = .ok (.aload_n 0, 1) := by decide +kernel
theorem dX4_init_62 : decode cX4_init 62 = .ok (.getfield 7, 3) := by decide +kernel
theorem dX4_init_65 : decode cX4_init 65 = .ok (.bipush 6, 2) := by decide +kernel
theorem dX4_init_67 : decode cX4_init 67 = .ok (.ldc2_w 26, 3) := by decide +kernel
theorem dX4_init_70 : decode cX4_init 70 = .ok (.lastore, 1) := by decide +kernel
theorem dX4_init_71 : decode cX4_init 71 = .ok (.aload_n 0, 1) := by decide +kernel
theorem dX4_init_72 : decode cX4_init 72 = .ok (.getfield 7, 3) := by decide +kernel
theorem dX4_init_75 : decode cX4_init 75 = .ok (.bipush 7, 2) := by decide +kernel
theorem dX4_init_77 : decode cX4_init 77 = .ok (.ldc2_w 26, 3) := by decide +kernel
theorem dX4_init_80 : decode cX4_init 80 = .ok (.lastore, 1) := by decide +kernel
theorem dX4_init_81 : decode cX4_init 81 = .ok (.aload_n 0, 1) := by decide +kernel
theorem dX4_init_82 : decode cX4_init 82 = .ok (.getfield 7, 3) := by decide +kernel
theorem dX4_init_85 : decode cX4_init 85 = .ok (.bipush 8, 2) := by decide +kernel
theorem dX4_init_87 : decode cX4_init 87 = .ok (.ldc2_w 28, 3) := by decide +kernel
theorem dX4_init_90 : decode cX4_init 90 = .ok (.lastore, 1) := by decide +kernel
theorem dX4_init_91 : decode cX4_init 91 = .ok (.return_, 1) := by decide +kernel
theorem dX4_in_0 : decode cX4_in 0 = .ok (.iload_n 0, 1) := by decide +kernel
theorem dX4_in_1 : decode cX4_in 1 = .ok (.iload_n 1, 1) := by decide +kernel
theorem dX4_in_2 : decode cX4_in 2 = .ok (.if_icmp .lt 12, 3) := by decide +kernel
theorem dX4_in_5 : decode cX4_in 5 = .ok (.iload_n 0, 1) := by decide +kernel
theorem dX4_in_6 : decode cX4_in 6 = .ok (.iload_n 2, 1) := by decide +kernel
theorem dX4_in_7 : decode cX4_in 7 = .ok (.if_icmp .gt 7, 3) := by decide +kernel
theorem dX4_in_10 : decode cX4_in 10 = .ok (.iconst 1, 1) := by decide +kernel
theorem dX4_in_11 : decode cX4_in 11 = .ok (.goto 4, 3) := by decide +kernel
theorem dX4_in_14 : decode cX4_in 14 = .ok (.iconst 0, 1) := by decide +kernel
theorem dX4_in_15 : decode cX4_in 15 = .ok (.ireturn, 1) := by decide +kernel
theorem dX4_size_0 : decode cX4_size 0 = .ok (.lload_n 0, 1) := by decide +kernel
theorem dX4_size_1 : decode cX4_size 1 = .ok (.lconst 0, 1) := by decide +kernel
theorem dX4_size_2 : decode cX4_size 2 = .ok (.lcmp, 1) := by decide +kernel
theorem dX4_size_3 : decode cX4_size 3 = .ok (.ifCond .ge 8, 3) := by decide +kernel
theorem dX4_size_6 : decode cX4_size 6 = .ok (.lload_n 0, 1) := by decide +kernel
theorem dX4_size_7 : decode cX4_size 7 = .ok (.lneg, 1) := by decide +kernel
theorem dX4_size_8 : decode cX4_size 8 = .ok (.goto 4, 3) := by decide +kernel
theorem dX4_size_11 : decode cX4_size 11 = .ok (.lload_n 0, 1) := by decide +kernel
theorem dX4_size_12 : decode cX4_size 12 = .ok (.lreturn, 1) := by decide +kernel
theorem dX4_divisor_0 : decode cX4_divisor 0 = .ok (.lload_n 0, 1) := by decide +kernel
theorem dX4_divisor_1 : decode cX4_divisor 1 = .ok (.invokestatic 30, 3) := by decide +kernel
theorem dX4_divisor_4 : decode cX4_divisor 4 = .ok (.lstore 4, 2) := by decide +kernel
theorem dX4_divisor_6 : decode cX4_divisor 6 = .ok (.lload_n 2, 1) := by decide +kernel
theorem dX4_divisor_7 : decode cX4_divisor 7 = .ok (.invokestatic 30, 3) := by decide +kernel
theorem dX4_divisor_10 : decode cX4_divisor 10 = .ok (.lstore 6, 2) := by decide +kernel
theorem dX4_divisor_12 : decode cX4_divisor 12 = .ok (.lload 6, 2) := by decide +kernel
theorem dX4_divisor_14 : decode cX4_divisor 14 = .ok (.lconst 0, 1) := by decide +kernel
theorem dX4_divisor_15 : decode cX4_divisor 15 = .ok (.lcmp, 1) := by decide +kernel
theorem dX4_divisor_16 : decode cX4_divisor 16 = .ok (.ifCond .eq 21, 3) := by decide +kernel
theorem dX4_divisor_19 : decode cX4_divisor 19 = .ok (.lload 4, 2) := by decide +kernel
theorem dX4_divisor_21 : decode cX4_divisor 21 = .ok (.lload 6, 2) := by decide +kernel
theorem dX4_divisor_23 : decode cX4_divisor 23 = .ok (.lrem, 1) := by decide +kernel
theorem dX4_divisor_24 : decode cX4_divisor 24 = .ok (.lstore 8, 2) := by decide +kernel
theorem dX4_divisor_26 : decode cX4_divisor 26 = .ok (.lload 6, 2) := by decide +kernel
theorem dX4_divisor_28 : decode cX4_divisor 28 = .ok (.lstore 4, 2) := by decide +kernel
theorem dX4_divisor_30 : decode cX4_divisor 30 = .ok (.lload 8, 2) := by decide +kernel
theorem dX4_divisor_32 : decode cX4_divisor 32 = .ok (.lstore 6, 2) := by decide +kernel
theorem dX4_divisor_34 : decode cX4_divisor 34 = .ok (.goto (-22), 3) := by decide +kernel
theorem dX4_divisor_37 : decode cX4_divisor 37 = .ok (.lload 4, 2) := by decide +kernel
theorem dX4_divisor_39 : decode cX4_divisor 39 = .ok (.lreturn, 1) := by decide +kernel
theorem dX4_bring_0 : decode cX4_bring 0 = .ok (.iconst 0, 1) := by decide +kernel
theorem dX4_bring_1 : decode cX4_bring 1 = .ok (.istore 4, 2) := by decide +kernel
theorem dX4_bring_3 : decode cX4_bring 3 = .ok (.iload 4, 2) := by decide +kernel
theorem dX4_bring_5 : decode cX4_bring 5 = .ok (.sipush 915, 3) := by decide +kernel
theorem dX4_bring_8 : decode cX4_bring 8 = .ok (.if_icmp .ge 21, 3) := by decide +kernel
theorem dX4_bring_11 : decode cX4_bring 11 = .ok (.aload_n 2, 1) := by decide +kernel
theorem dX4_bring_12 : decode cX4_bring 12 = .ok (.iload_n 3, 1) := by decide +kernel
theorem dX4_bring_13 : decode cX4_bring 13 = .ok (.iload 4, 2) := by decide +kernel
theorem dX4_bring_15 : decode cX4_bring 15 = .ok (.iadd, 1) := by decide +kernel
theorem dX4_bring_16 : decode cX4_bring 16 = .ok (.aload_n 0, 1) := by decide +kernel
theorem dX4_bring_17 : decode cX4_bring 17 = .ok (.iload_n 1, 1) := by decide +kernel
theorem dX4_bring_18 : decode cX4_bring 18 = .ok (.iload 4, 2) := by decide +kernel
theorem dX4_bring_20 : decode cX4_bring 20 = .ok (.iadd, 1) := by decide +kernel
theorem dX4_bring_21 : decode cX4_bring 21 = .ok (.laload, 1) := by decide +kernel
theorem dX4_bring_22 : decode cX4_bring 22 = .ok (.lastore, 1) := by decide +kernel
theorem dX4_bring_23 : decode cX4_bring 23 = .ok (.iinc 4 1, 3) := by decide +kernel
theorem dX4_bring_26 : decode cX4_bring 26 = .ok (.goto (-23), 3) := by decide +kernel
theorem dX4_bring_29 : decode cX4_bring 29 = .ok (.return_, 1) := by decide +kernel
theorem dX4_keep_0 : decode cX4_keep 0 = .ok (.aload_n 0, 1) := by decide +kernel
theorem dX4_keep_1 : decode cX4_keep 1 = .ok (.getfield 34, 3) := by decide +kernel
theorem dX4_keep_4 : decode cX4_keep 4 = .ok (.iconst 4, 1) := by decide +kernel
theorem dX4_keep_5 : decode cX4_keep 5 = .ok (.if_icmp .ne 44, 3) := by decide +kernel
theorem dX4_keep_8 : decode cX4_keep 8 = .ok (.iconst 0, 1) := by decide +kernel
theorem dX4_keep_9 : decode cX4_keep 9 = .ok (.istore_n 1, 1) := by decide +kernel
theorem dX4_keep_10 : decode cX4_keep 10 = .ok (.iload_n 1, 1) := by decide +kernel
theorem dX4_keep_11 : decode cX4_keep 11 = .ok (.sipush 2745, 3) := by decide +kernel
theorem dX4_keep_14 : decode cX4_keep 14 = .ok (.if_icmp .ge 25, 3) := by decide +kernel
theorem dX4_keep_17 : decode cX4_keep 17 = .ok (.aload_n 0, 1) := by decide +kernel
theorem dX4_keep_18 : decode cX4_keep 18 = .ok (.getfield 16, 3) := by decide +kernel
theorem dX4_keep_21 : decode cX4_keep 21 = .ok (.iload_n 1, 1) := by decide +kernel
theorem dX4_keep_22 : decode cX4_keep 22 = .ok (.aload_n 0, 1) := by decide +kernel
theorem dX4_keep_23 : decode cX4_keep 23 = .ok (.getfield 16, 3) := by decide +kernel
theorem dX4_keep_26 : decode cX4_keep 26 = .ok (.iload_n 1, 1) := by decide +kernel
theorem dX4_keep_27 : decode cX4_keep 27 = .ok (.sipush 915, 3) := by decide +kernel
theorem dX4_keep_30 : decode cX4_keep 30 = .ok (.iadd, 1) := by decide +kernel
theorem dX4_keep_31 : decode cX4_keep 31 = .ok (.laload, 1) := by decide +kernel
theorem dX4_keep_32 : decode cX4_keep 32 = .ok (.lastore, 1) := by decide +kernel
theorem dX4_keep_33 : decode cX4_keep 33 = .ok (.iinc 1 1, 3) := by decide +kernel
theorem dX4_keep_36 : decode cX4_keep 36 = .ok (.goto (-26), 3) := by decide +kernel
theorem dX4_keep_39 : decode cX4_keep 39 = .ok (.aload_n 0, 1) := by decide +kernel
theorem dX4_keep_40 : decode cX4_keep 40 = .ok (.dup, 1) := by decide +kernel
theorem dX4_keep_41 : decode cX4_keep 41 = .ok (.getfield 34, 3) := by decide +kernel
theorem dX4_keep_44 : decode cX4_keep 44 = .ok (.iconst 1, 1) := by decide +kernel
theorem dX4_keep_45 : decode cX4_keep 45 = .ok (.isub, 1) := by decide +kernel
theorem dX4_keep_46 : decode cX4_keep 46 = .ok (.putfield 34, 3) := by decide +kernel
theorem dX4_keep_49 : decode cX4_keep 49 = .ok (.aload_n 0, 1) := by decide +kernel
theorem dX4_keep_50 : decode cX4_keep 50 = .ok (.getfield 7, 3) := by decide +kernel
theorem dX4_keep_53 : decode cX4_keep 53 = .ok (.iconst 0, 1) := by decide +kernel
theorem dX4_keep_54 : decode cX4_keep 54 = .ok (.aload_n 0, 1) := by decide +kernel
theorem dX4_keep_55 : decode cX4_keep 55 = .ok (.getfield 16, 3) := by decide +kernel
theorem dX4_keep_58 : decode cX4_keep 58 = .ok (.sipush 915, 3) := by decide +kernel
theorem dX4_keep_61 : decode cX4_keep 61 = .ok (.aload_n 0, 1) := by decide +kernel
theorem dX4_keep_62 : decode cX4_keep 62 = .ok (.getfield 34, 3) := by decide +kernel
theorem dX4_keep_65 : decode cX4_keep 65 = .ok (.imul, 1) := by decide +kernel
theorem dX4_keep_66 : decode cX4_keep 66 = .ok (.invokestatic 38, 3) := by decide +kernel
theorem dX4_keep_69 : decode cX4_keep 69 = .ok (.aload_n 0, 1) := by decide +kernel
theorem dX4_keep_70 : decode cX4_keep 70 = .ok (.dup, 1) := by decide +kernel
theorem dX4_keep_71 : decode cX4_keep 71 = .ok (.getfield 34, 3) := by decide +kernel
theorem dX4_keep_74 : decode cX4_keep 74 = .ok (.iconst 1, 1) := by decide +kernel
theorem dX4_keep_75 : decode cX4_keep 75 = .ok (.iadd, 1) := by decide +kernel
theorem dX4_keep_76 : decode cX4_keep 76 = .ok (.putfield 34, 3) := by decide +kernel
theorem dX4_keep_79 : decode cX4_keep 79 = .ok (.return_, 1) := by decide +kernel
theorem dX4_reduce_0 : decode cX4_reduce 0 = .ok (.lload_n 1, 1) := by decide +kernel
theorem dX4_reduce_1 : decode cX4_reduce 1 = .ok (.lload_n 3, 1) := by decide +kernel
theorem dX4_reduce_2 : decode cX4_reduce 2 = .ok (.invokestatic 42, 3) := by decide +kernel
theorem dX4_reduce_5 : decode cX4_reduce 5 = .ok (.lstore 5, 2) := by decide +kernel
theorem dX4_reduce_7 : decode cX4_reduce 7 = .ok (.aload_n 0, 1) := by decide +kernel
theorem dX4_reduce_8 : decode cX4_reduce 8 = .ok (.lload 5, 2) := by decide +kernel
theorem dX4_reduce_10 : decode cX4_reduce 10 = .ok (.lconst 0, 1) := by decide +kernel
theorem dX4_reduce_11 : decode cX4_reduce 11 = .ok (.lcmp, 1) := by decide +kernel
theorem dX4_reduce_12 : decode cX4_reduce 12 = .ok (.ifCond .ne 7, 3) := by decide +kernel
theorem dX4_reduce_15 : decode cX4_reduce 15 = .ok (.lconst 0, 1) := by decide +kernel
theorem dX4_reduce_16 : decode cX4_reduce 16 = .ok (.goto 7, 3) := by decide +kernel
theorem dX4_reduce_19 : decode cX4_reduce 19 = .ok (.lload_n 1, 1) := by decide +kernel
theorem dX4_reduce_20 : decode cX4_reduce 20 = .ok (.lload 5, 2) := by decide +kernel
theorem dX4_reduce_22 : decode cX4_reduce 22 = .ok (.ldiv, 1) := by decide +kernel
theorem dX4_reduce_23 : decode cX4_reduce 23 = .ok (.putfield 46, 3) := by decide +kernel
theorem dX4_reduce_26 : decode cX4_reduce 26 = .ok (.aload_n 0, 1) := by decide +kernel
theorem dX4_reduce_27 : decode cX4_reduce 27 = .ok (.lload 5, 2) := by decide +kernel
theorem dX4_reduce_29 : decode cX4_reduce 29 = .ok (.lconst 0, 1) := by decide +kernel
theorem dX4_reduce_30 : decode cX4_reduce 30 = .ok (.lcmp, 1) := by decide +kernel
theorem dX4_reduce_31 : decode cX4_reduce 31 = .ok (.ifCond .ne 7, 3) := by decide +kernel
theorem dX4_reduce_34 : decode cX4_reduce 34 = .ok (.lconst 1, 1) := by decide +kernel
theorem dX4_reduce_35 : decode cX4_reduce 35 = .ok (.goto 7, 3) := by decide +kernel
theorem dX4_reduce_38 : decode cX4_reduce 38 = .ok (.lload_n 3, 1) := by decide +kernel
theorem dX4_reduce_39 : decode cX4_reduce 39 = .ok (.lload 5, 2) := by decide +kernel
theorem dX4_reduce_41 : decode cX4_reduce 41 = .ok (.ldiv, 1) := by decide +kernel
theorem dX4_reduce_42 : decode cX4_reduce 42 = .ok (.putfield 50, 3) := by decide +kernel
theorem dX4_reduce_45 : decode cX4_reduce 45 = .ok (.return_, 1) := by decide +kernel
theorem dX4_plus_0 : decode cX4_plus 0 = .ok (.lload_n 3, 1) := by decide +kernel
theorem dX4_plus_1 : decode cX4_plus 1 = .ok (.lload 9, 2) := by decide +kernel
theorem dX4_plus_3 : decode cX4_plus 3 = .ok (.invokestatic 42, 3) := by decide +kernel
theorem dX4_plus_6 : decode cX4_plus 6 = .ok (.lstore 11, 2) := by decide +kernel
theorem dX4_plus_8 : decode cX4_plus 8 = .ok (.aload_n 0, 1) := by decide +kernel
theorem dX4_plus_9 : decode cX4_plus 9 = .ok (.lload_n 1, 1) := by decide +kernel
theorem dX4_plus_10 : decode cX4_plus 10 = .ok (.lload 9, 2) := by decide +kernel
theorem dX4_plus_12 : decode cX4_plus 12 = .ok (.lload 11, 2) := by decide +kernel
theorem dX4_plus_14 : decode cX4_plus 14 = .ok (.ldiv, 1) := by decide +kernel
theorem dX4_plus_15 : decode cX4_plus 15 = .ok (.lmul, 1) := by decide +kernel
theorem dX4_plus_16 : decode cX4_plus 16 = .ok (.lload 5, 2) := by decide +kernel
theorem dX4_plus_18 : decode cX4_plus 18 = .ok (.lload 7, 2) := by decide +kernel
theorem dX4_plus_20 : decode cX4_plus 20 = .ok (.lmul, 1) := by decide +kernel
theorem dX4_plus_21 : decode cX4_plus 21 = .ok (.lload_n 3, 1) := by decide +kernel
theorem dX4_plus_22 : decode cX4_plus 22 = .ok (.lload 11, 2) := by decide +kernel
theorem dX4_plus_24 : decode cX4_plus 24 = .ok (.ldiv, 1) := by decide +kernel
theorem dX4_plus_25 : decode cX4_plus 25 = .ok (.lmul, 1) := by decide +kernel
theorem dX4_plus_26 : decode cX4_plus 26 = .ok (.ladd, 1) := by decide +kernel
theorem dX4_plus_27 : decode cX4_plus 27 = .ok (.lload_n 3, 1) := by decide +kernel
theorem dX4_plus_28 : decode cX4_plus 28 = .ok (.lload 11, 2) := by decide +kernel
theorem dX4_plus_30 : decode cX4_plus 30 = .ok (.ldiv, 1) := by decide +kernel
theorem dX4_plus_31 : decode cX4_plus 31 = .ok (.lload 9, 2) := by decide +kernel
theorem dX4_plus_33 : decode cX4_plus 33 = .ok (.lmul, 1) := by decide +kernel
theorem dX4_plus_34 : decode cX4_plus 34 = .ok (.invokevirtual 53, 3) := by decide +kernel
theorem dX4_plus_37 : decode cX4_plus 37 = .ok (.return_, 1) := by decide +kernel
theorem dX4_put_0 : decode cX4_put 0 = .ok (.aload_n 0, 1) := by decide +kernel
theorem dX4_put_1 : decode cX4_put 1 = .ok (.getfield 7, 3) := by decide +kernel
theorem dX4_put_4 : decode cX4_put 4 = .ok (.iload_n 1, 1) := by decide +kernel
theorem dX4_put_5 : decode cX4_put 5 = .ok (.aload_n 0, 1) := by decide +kernel
theorem dX4_put_6 : decode cX4_put 6 = .ok (.getfield 46, 3) := by decide +kernel
theorem dX4_put_9 : decode cX4_put 9 = .ok (.lastore, 1) := by decide +kernel
theorem dX4_put_10 : decode cX4_put 10 = .ok (.aload_n 0, 1) := by decide +kernel
theorem dX4_put_11 : decode cX4_put 11 = .ok (.getfield 7, 3) := by decide +kernel
theorem dX4_put_14 : decode cX4_put 14 = .ok (.iload_n 1, 1) := by decide +kernel
theorem dX4_put_15 : decode cX4_put 15 = .ok (.iconst 1, 1) := by decide +kernel
theorem dX4_put_16 : decode cX4_put 16 = .ok (.iadd, 1) := by decide +kernel
theorem dX4_put_17 : decode cX4_put 17 = .ok (.aload_n 0, 1) := by decide +kernel
theorem dX4_put_18 : decode cX4_put 18 = .ok (.getfield 50, 3) := by decide +kernel
theorem dX4_put_21 : decode cX4_put 21 = .ok (.lastore, 1) := by decide +kernel
theorem dX4_put_22 : decode cX4_put 22 = .ok (.return_, 1) := by decide +kernel
theorem dX4_of_0 : decode cX4_of 0 = .ok (.aload_n 0, 1) := by decide +kernel
theorem dX4_of_1 : decode cX4_of 1 = .ok (.getfield 7, 3) := by decide +kernel
theorem dX4_of_4 : decode cX4_of 4 = .ok (.iload_n 1, 1) := by decide +kernel
theorem dX4_of_5 : decode cX4_of 5 = .ok (.laload, 1) := by decide +kernel
theorem dX4_of_6 : decode cX4_of 6 = .ok (.l2i, 1) := by decide +kernel
theorem dX4_of_7 : decode cX4_of 7 = .ok (.ireturn, 1) := by decide +kernel
theorem dX4_arm_0 : decode cX4_arm 0 = .ok (.iload_n 1, 1) := by decide +kernel
theorem dX4_arm_1 : decode cX4_arm 1 = .ok (.iconst 1, 1) := by decide +kernel
theorem dX4_arm_2 : decode cX4_arm 2 = .ok (.bipush 20, 2) := by decide +kernel
theorem dX4_arm_4 : decode cX4_arm 4 = .ok (.invokestatic 57, 3) := by decide +kernel
theorem dX4_arm_7 : decode cX4_arm 7 = .ok (.ifCond .eq 13, 3) := by decide +kernel
theorem dX4_arm_10 : decode cX4_arm 10 = .ok (.iload_n 2, 1) := by decide +kernel
theorem dX4_arm_11 : decode cX4_arm 11 = .ok (.iconst 1, 1) := by decide +kernel
theorem dX4_arm_12 : decode cX4_arm 12 = .ok (.bipush 20, 2) := by decide +kernel
theorem dX4_arm_14 : decode cX4_arm 14 = .ok (.invokestatic 57, 3) := by decide +kernel
theorem dX4_arm_17 : decode cX4_arm 17 = .ok (.ifCond .ne 6, 3) := by decide +kernel
theorem dX4_arm_20 : decode cX4_arm 20 = .ok (.ldc 61, 2) := by decide +kernel
theorem dX4_arm_22 : decode cX4_arm 22 = .ok (.ireturn, 1) := by decide +kernel
theorem dX4_arm_23 : decode cX4_arm 23 = .ok (.aload_n 0, 1) := by decide +kernel
theorem dX4_arm_24 : decode cX4_arm 24 = .ok (.invokevirtual 62, 3) := by decide +kernel
theorem dX4_arm_27 : decode cX4_arm 27 = .ok (.bipush 100, 2) := by decide +kernel
theorem dX4_arm_29 : decode cX4_arm 29 = .ok (.aload_n 0, 1) := by decide +kernel
theorem dX4_arm_30 : decode cX4_arm 30 = .ok (.iconst 0, 1) := by decide +kernel
theorem dX4_arm_31 : decode cX4_arm 31 = .ok (.invokevirtual 65, 3) := by decide +kernel
theorem dX4_arm_34 : decode cX4_arm 34 = .ok (.imul, 1) := by decide +kernel
theorem dX4_arm_35 : decode cX4_arm 35 = .ok (.aload_n 0, 1) := by decide +kernel
theorem dX4_arm_36 : decode cX4_arm 36 = .ok (.iconst 1, 1) := by decide +kernel
theorem dX4_arm_37 : decode cX4_arm 37 = .ok (.invokevirtual 65, 3) := by decide +kernel
theorem dX4_arm_40 : decode cX4_arm 40 = .ok (.iadd, 1) := by decide +kernel
theorem dX4_arm_41 : decode cX4_arm 41 = .ok (.istore_n 3, 1) := by decide +kernel
theorem dX4_arm_42 : decode cX4_arm 42 = .ok (.aload_n 0, 1) := by decide +kernel
theorem dX4_arm_43 : decode cX4_arm 43 = .ok (.getfield 7, 3) := by decide +kernel
theorem dX4_arm_46 : decode cX4_arm 46 = .ok (.iconst 0, 1) := by decide +kernel
theorem dX4_arm_47 : decode cX4_arm 47 = .ok (.iload_n 1, 1) := by decide +kernel
theorem dX4_arm_48 : decode cX4_arm 48 = .ok (.i2l, 1) := by decide +kernel
theorem dX4_arm_49 : decode cX4_arm 49 = .ok (.lastore, 1) := by decide +kernel
theorem dX4_arm_50 : decode cX4_arm 50 = .ok (.aload_n 0, 1) := by decide +kernel
theorem dX4_arm_51 : decode cX4_arm 51 = .ok (.getfield 7, 3) := by decide +kernel
theorem dX4_arm_54 : decode cX4_arm 54 = .ok (.iconst 1, 1) := by decide +kernel
theorem dX4_arm_55 : decode cX4_arm 55 = .ok (.iload_n 2, 1) := by decide +kernel
theorem dX4_arm_56 : decode cX4_arm 56 = .ok (.i2l, 1) := by decide +kernel
theorem dX4_arm_57 : decode cX4_arm 57 = .ok (.lastore, 1) := by decide +kernel
theorem dX4_arm_58 : decode cX4_arm 58 = .ok (.iload_n 3, 1) := by decide +kernel
theorem dX4_arm_59 : decode cX4_arm 59 = .ok (.ireturn, 1) := by decide +kernel
theorem dX4_pivot_0 : decode cX4_pivot 0 = .ok (.iload_n 1, 1) := by decide +kernel
theorem dX4_pivot_1 : decode cX4_pivot 1 = .ok (.iconst 0, 1) := by decide +kernel
theorem dX4_pivot_2 : decode cX4_pivot 2 = .ok (.sipush 1000, 3) := by decide +kernel
theorem dX4_pivot_5 : decode cX4_pivot 5 = .ok (.invokestatic 57, 3) := by decide +kernel
theorem dX4_pivot_8 : decode cX4_pivot 8 = .ok (.ifCond .eq 14, 3) := by decide +kernel
theorem dX4_pivot_11 : decode cX4_pivot 11 = .ok (.iload_n 2, 1) := by decide +kernel
theorem dX4_pivot_12 : decode cX4_pivot 12 = .ok (.iconst 0, 1) := by decide +kernel
theorem dX4_pivot_13 : decode cX4_pivot 13 = .ok (.sipush 1000, 3) := by decide +kernel
theorem dX4_pivot_16 : decode cX4_pivot 16 = .ok (.invokestatic 57, 3) := by decide +kernel
theorem dX4_pivot_19 : decode cX4_pivot 19 = .ok (.ifCond .ne 6, 3) := by decide +kernel
theorem dX4_pivot_22 : decode cX4_pivot 22 = .ok (.ldc 61, 2) := by decide +kernel
theorem dX4_pivot_24 : decode cX4_pivot 24 = .ok (.ireturn, 1) := by decide +kernel
theorem dX4_pivot_25 : decode cX4_pivot 25 = .ok (.aload_n 0, 1) := by decide +kernel
theorem dX4_pivot_26 : decode cX4_pivot 26 = .ok (.invokevirtual 62, 3) := by decide +kernel
theorem dX4_pivot_29 : decode cX4_pivot 29 = .ok (.sipush 10000, 3) := by decide +kernel
theorem dX4_pivot_32 : decode cX4_pivot 32 = .ok (.aload_n 0, 1) := by decide +kernel
theorem dX4_pivot_33 : decode cX4_pivot 33 = .ok (.iconst 2, 1) := by decide +kernel
theorem dX4_pivot_34 : decode cX4_pivot 34 = .ok (.invokevirtual 65, 3) := by decide +kernel
theorem dX4_pivot_37 : decode cX4_pivot 37 = .ok (.imul, 1) := by decide +kernel
theorem dX4_pivot_38 : decode cX4_pivot 38 = .ok (.aload_n 0, 1) := by decide +kernel
theorem dX4_pivot_39 : decode cX4_pivot 39 = .ok (.iconst 3, 1) := by decide +kernel
theorem dX4_pivot_40 : decode cX4_pivot 40 = .ok (.invokevirtual 65, 3) := by decide +kernel
theorem dX4_pivot_43 : decode cX4_pivot 43 = .ok (.iadd, 1) := by decide +kernel
theorem dX4_pivot_44 : decode cX4_pivot 44 = .ok (.istore_n 3, 1) := by decide +kernel
theorem dX4_pivot_45 : decode cX4_pivot 45 = .ok (.aload_n 0, 1) := by decide +kernel
theorem dX4_pivot_46 : decode cX4_pivot 46 = .ok (.getfield 7, 3) := by decide +kernel
theorem dX4_pivot_49 : decode cX4_pivot 49 = .ok (.iconst 2, 1) := by decide +kernel
theorem dX4_pivot_50 : decode cX4_pivot 50 = .ok (.iload_n 1, 1) := by decide +kernel
theorem dX4_pivot_51 : decode cX4_pivot 51 = .ok (.i2l, 1) := by decide +kernel
theorem dX4_pivot_52 : decode cX4_pivot 52 = .ok (.lastore, 1) := by decide +kernel
theorem dX4_pivot_53 : decode cX4_pivot 53 = .ok (.aload_n 0, 1) := by decide +kernel
theorem dX4_pivot_54 : decode cX4_pivot 54 = .ok (.getfield 7, 3) := by decide +kernel
theorem dX4_pivot_57 : decode cX4_pivot 57 = .ok (.iconst 3, 1) := by decide +kernel
theorem dX4_pivot_58 : decode cX4_pivot 58 = .ok (.iload_n 2, 1) := by decide +kernel
theorem dX4_pivot_59 : decode cX4_pivot 59 = .ok (.i2l, 1) := by decide +kernel
theorem dX4_pivot_60 : decode cX4_pivot 60 = .ok (.lastore, 1) := by decide +kernel
theorem dX4_pivot_61 : decode cX4_pivot 61 = .ok (.iload_n 3, 1) := by decide +kernel
theorem dX4_pivot_62 : decode cX4_pivot 62 = .ok (.ireturn, 1) := by decide +kernel
theorem dX4_isSetting_0 : decode cX4_isSetting 0 = .ok (.iload_n 0, 1) := by decide +kernel
theorem dX4_isSetting_1 : decode cX4_isSetting 1 = .ok (.tableswitch 56 0 3 #[31, 38, 46, 46], 31) := by decide +kernel
theorem dX4_isSetting_32 : decode cX4_isSetting 32 = .ok (.iload_n 1, 1) := by decide +kernel
theorem dX4_isSetting_33 : decode cX4_isSetting 33 = .ok (.iconst 0, 1) := by decide +kernel
theorem dX4_isSetting_34 : decode cX4_isSetting 34 = .ok (.iconst 2, 1) := by decide +kernel
theorem dX4_isSetting_35 : decode cX4_isSetting 35 = .ok (.invokestatic 57, 3) := by decide +kernel
theorem dX4_isSetting_38 : decode cX4_isSetting 38 = .ok (.ireturn, 1) := by decide +kernel
theorem dX4_isSetting_39 : decode cX4_isSetting 39 = .ok (.iload_n 1, 1) := by decide +kernel
theorem dX4_isSetting_40 : decode cX4_isSetting 40 = .ok (.iconst 0, 1) := by decide +kernel
theorem dX4_isSetting_41 : decode cX4_isSetting 41 = .ok (.bipush 50, 2) := by decide +kernel
theorem dX4_isSetting_43 : decode cX4_isSetting 43 = .ok (.invokestatic 57, 3) := by decide +kernel
theorem dX4_isSetting_46 : decode cX4_isSetting 46 = .ok (.ireturn, 1) := by decide +kernel
theorem dX4_isSetting_47 : decode cX4_isSetting 47 = .ok (.iload_n 1, 1) := by decide +kernel
theorem dX4_isSetting_48 : decode cX4_isSetting 48 = .ok (.bipush 10, 2) := by decide +kernel
theorem dX4_isSetting_50 : decode cX4_isSetting 50 = .ok (.sipush 1000, 3) := by decide +kernel
theorem dX4_isSetting_53 : decode cX4_isSetting 53 = .ok (.invokestatic 57, 3) := by decide +kernel
theorem dX4_isSetting_56 : decode cX4_isSetting 56 = .ok (.ireturn, 1) := by decide +kernel
theorem dX4_isSetting_57 : decode cX4_isSetting 57 = .ok (.iload_n 0, 1) := by decide +kernel
theorem dX4_isSetting_58 : decode cX4_isSetting 58 = .ok (.iconst 4, 1) := by decide +kernel
theorem dX4_isSetting_59 : decode cX4_isSetting 59 = .ok (.if_icmp .ne 18, 3) := by decide +kernel
theorem dX4_isSetting_62 : decode cX4_isSetting 62 = .ok (.iload_n 1, 1) := by decide +kernel
theorem dX4_isSetting_63 : decode cX4_isSetting 63 = .ok (.iconst 1, 1) := by decide +kernel
theorem dX4_isSetting_64 : decode cX4_isSetting 64 = .ok (.sipush 1000, 3) := by decide +kernel
theorem dX4_isSetting_67 : decode cX4_isSetting 67 = .ok (.invokestatic 57, 3) := by decide +kernel
theorem dX4_isSetting_70 : decode cX4_isSetting 70 = .ok (.ifCond .eq 7, 3) := by decide +kernel
theorem dX4_isSetting_73 : decode cX4_isSetting 73 = .ok (.iconst 1, 1) := by decide +kernel
theorem dX4_isSetting_74 : decode cX4_isSetting 74 = .ok (.goto 4, 3) := by decide +kernel
theorem dX4_isSetting_77 : decode cX4_isSetting 77 = .ok (.iconst 0, 1) := by decide +kernel
theorem dX4_isSetting_78 : decode cX4_isSetting 78 = .ok (.ireturn, 1) := by decide +kernel
theorem dX4_set_0 : decode cX4_set 0 = .ok (.iload_n 1, 1) := by decide +kernel
theorem dX4_set_1 : decode cX4_set 1 = .ok (.iload_n 2, 1) := by decide +kernel
theorem dX4_set_2 : decode cX4_set 2 = .ok (.invokestatic 69, 3) := by decide +kernel
theorem dX4_set_5 : decode cX4_set 5 = .ok (.ifCond .ne 6, 3) := by decide +kernel
theorem dX4_set_8 : decode cX4_set 8 = .ok (.ldc 61, 2) := by decide +kernel
theorem dX4_set_10 : decode cX4_set 10 = .ok (.ireturn, 1) := by decide +kernel
theorem dX4_set_11 : decode cX4_set 11 = .ok (.aload_n 0, 1) := by decide +kernel
theorem dX4_set_12 : decode cX4_set 12 = .ok (.invokevirtual 62, 3) := by decide +kernel
theorem dX4_set_15 : decode cX4_set 15 = .ok (.aload_n 0, 1) := by decide +kernel
theorem dX4_set_16 : decode cX4_set 16 = .ok (.iconst 4, 1) := by decide +kernel
theorem dX4_set_17 : decode cX4_set 17 = .ok (.iload_n 1, 1) := by decide +kernel
theorem dX4_set_18 : decode cX4_set 18 = .ok (.iadd, 1) := by decide +kernel
theorem dX4_set_19 : decode cX4_set 19 = .ok (.invokevirtual 65, 3) := by decide +kernel
theorem dX4_set_22 : decode cX4_set 22 = .ok (.istore_n 3, 1) := by decide +kernel
theorem dX4_set_23 : decode cX4_set 23 = .ok (.aload_n 0, 1) := by decide +kernel
theorem dX4_set_24 : decode cX4_set 24 = .ok (.getfield 7, 3) := by decide +kernel
theorem dX4_set_27 : decode cX4_set 27 = .ok (.iconst 4, 1) := by decide +kernel
theorem dX4_set_28 : decode cX4_set 28 = .ok (.iload_n 1, 1) := by decide +kernel
theorem dX4_set_29 : decode cX4_set 29 = .ok (.iadd, 1) := by decide +kernel
theorem dX4_set_30 : decode cX4_set 30 = .ok (.iload_n 2, 1) := by decide +kernel
theorem dX4_set_31 : decode cX4_set 31 = .ok (.i2l, 1) := by decide +kernel
theorem dX4_set_32 : decode cX4_set 32 = .ok (.lastore, 1) := by decide +kernel
theorem dX4_set_33 : decode cX4_set 33 = .ok (.iload_n 3, 1) := by decide +kernel
theorem dX4_set_34 : decode cX4_set 34 = .ok (.ireturn, 1) := by decide +kernel
theorem dX4_isBlunt_0 : decode cX4_isBlunt 0 = .ok (.lconst 1, 1) := by decide +kernel
theorem dX4_isBlunt_1 : decode cX4_isBlunt 1 = .ok (.aload_n 0, 1) := by decide +kernel
theorem dX4_isBlunt_2 : decode cX4_isBlunt 2 = .ok (.getfield 7, 3) := by decide +kernel
theorem dX4_isBlunt_5 : decode cX4_isBlunt 5 = .ok (.bipush 9, 2) := by decide +kernel
theorem dX4_isBlunt_7 : decode cX4_isBlunt 7 = .ok (.laload, 1) := by decide +kernel
theorem dX4_isBlunt_8 : decode cX4_isBlunt 8 = .ok (.aload_n 0, 1) := by decide +kernel
theorem dX4_isBlunt_9 : decode cX4_isBlunt 9 = .ok (.getfield 7, 3) := by decide +kernel
theorem dX4_isBlunt_12 : decode cX4_isBlunt 12 = .ok (.bipush 8, 2) := by decide +kernel
theorem dX4_isBlunt_14 : decode cX4_isBlunt 14 = .ok (.laload, 1) := by decide +kernel
theorem dX4_isBlunt_15 : decode cX4_isBlunt 15 = .ok (.ldiv, 1) := by decide +kernel
theorem dX4_isBlunt_16 : decode cX4_isBlunt 16 = .ok (.ladd, 1) := by decide +kernel
theorem dX4_isBlunt_17 : decode cX4_isBlunt 17 = .ok (.ldc2_w 73, 3) := by decide +kernel
theorem dX4_isBlunt_20 : decode cX4_isBlunt 20 = .ok (.lcmp, 1) := by decide +kernel
theorem dX4_isBlunt_21 : decode cX4_isBlunt 21 = .ok (.ifCond .le 7, 3) := by decide +kernel
theorem dX4_isBlunt_24 : decode cX4_isBlunt 24 = .ok (.iconst 1, 1) := by decide +kernel
theorem dX4_isBlunt_25 : decode cX4_isBlunt 25 = .ok (.goto 4, 3) := by decide +kernel
theorem dX4_isBlunt_28 : decode cX4_isBlunt 28 = .ok (.iconst 0, 1) := by decide +kernel
theorem dX4_isBlunt_29 : decode cX4_isBlunt 29 = .ok (.ireturn, 1) := by decide +kernel
theorem dX4_count_0 : decode cX4_count 0 = .ok (.iload_n 1, 1) := by decide +kernel
theorem dX4_count_1 : decode cX4_count 1 = .ok (.tableswitch 139 0 17 #[87, 139, 139, 139, 139, 139, 139, 139, 139, 139, 139, 94, 107, 117, 117, 117, 129, 134], 87) := by decide +kernel
theorem dX4_count_88 : decode cX4_count 88 = .ok (.aload_n 0, 1) := by decide +kernel
theorem dX4_count_89 : decode cX4_count 89 = .ok (.bipush 14, 2) := by decide +kernel
theorem dX4_count_91 : decode cX4_count 91 = .ok (.invokevirtual 65, 3) := by decide +kernel
theorem dX4_count_94 : decode cX4_count 94 = .ok (.ireturn, 1) := by decide +kernel
theorem dX4_count_95 : decode cX4_count 95 = .ok (.aload_n 0, 1) := by decide +kernel
theorem dX4_count_96 : decode cX4_count 96 = .ok (.invokevirtual 75, 3) := by decide +kernel
theorem dX4_count_99 : decode cX4_count 99 = .ok (.ifCond .eq 7, 3) := by decide +kernel
theorem dX4_count_102 : decode cX4_count 102 = .ok (.iconst 1, 1) := by decide +kernel
theorem dX4_count_103 : decode cX4_count 103 = .ok (.goto 4, 3) := by decide +kernel
theorem dX4_count_106 : decode cX4_count 106 = .ok (.iconst 0, 1) := by decide +kernel
theorem dX4_count_107 : decode cX4_count 107 = .ok (.ireturn, 1) := by decide +kernel
theorem dX4_count_108 : decode cX4_count 108 = .ok (.bipush 10, 2) := by decide +kernel
theorem dX4_count_110 : decode cX4_count 110 = .ok (.aload_n 0, 1) := by decide +kernel
theorem dX4_count_111 : decode cX4_count 111 = .ok (.bipush 10, 2) := by decide +kernel
theorem dX4_count_113 : decode cX4_count 113 = .ok (.invokevirtual 65, 3) := by decide +kernel
theorem dX4_count_116 : decode cX4_count 116 = .ok (.isub, 1) := by decide +kernel
theorem dX4_count_117 : decode cX4_count 117 = .ok (.ireturn, 1) := by decide +kernel
theorem dX4_count_118 : decode cX4_count 118 = .ok (.aload_n 0, 1) := by decide +kernel
theorem dX4_count_119 : decode cX4_count 119 = .ok (.bipush 11, 2) := by decide +kernel
theorem dX4_count_121 : decode cX4_count 121 = .ok (.iload_n 1, 1) := by decide +kernel
theorem dX4_count_122 : decode cX4_count 122 = .ok (.iadd, 1) := by decide +kernel
theorem dX4_count_123 : decode cX4_count 123 = .ok (.bipush 13, 2) := by decide +kernel
theorem dX4_count_125 : decode cX4_count 125 = .ok (.isub, 1) := by decide +kernel
theorem dX4_count_126 : decode cX4_count 126 = .ok (.invokevirtual 65, 3) := by decide +kernel
theorem dX4_count_129 : decode cX4_count 129 = .ok (.ireturn, 1) := by decide +kernel
theorem dX4_count_130 : decode cX4_count 130 = .ok (.aload_n 0, 1) := by decide +kernel
theorem dX4_count_131 : decode cX4_count 131 = .ok (.getfield 34, 3) := by decide +kernel
theorem dX4_count_134 : decode cX4_count 134 = .ok (.ireturn, 1) := by decide +kernel
theorem dX4_count_135 : decode cX4_count 135 = .ok (.aload_n 0, 1) := by decide +kernel
theorem dX4_count_136 : decode cX4_count 136 = .ok (.getfield 79, 3) := by decide +kernel
theorem dX4_count_139 : decode cX4_count 139 = .ok (.ireturn, 1) := by decide +kernel
theorem dX4_count_140 : decode cX4_count 140 = .ok (.iload_n 1, 1) := by decide +kernel
theorem dX4_count_141 : decode cX4_count 141 = .ok (.iconst 1, 1) := by decide +kernel
theorem dX4_count_142 : decode cX4_count 142 = .ok (.bipush 10, 2) := by decide +kernel
theorem dX4_count_144 : decode cX4_count 144 = .ok (.invokestatic 57, 3) := by decide +kernel
theorem dX4_count_147 : decode cX4_count 147 = .ok (.ifCond .eq 13, 3) := by decide +kernel
theorem dX4_count_150 : decode cX4_count 150 = .ok (.aload_n 0, 1) := by decide +kernel
theorem dX4_count_151 : decode cX4_count 151 = .ok (.iload_n 1, 1) := by decide +kernel
theorem dX4_count_152 : decode cX4_count 152 = .ok (.iconst 1, 1) := by decide +kernel
theorem dX4_count_153 : decode cX4_count 153 = .ok (.isub, 1) := by decide +kernel
theorem dX4_count_154 : decode cX4_count 154 = .ok (.invokevirtual 65, 3) := by decide +kernel
theorem dX4_count_157 : decode cX4_count 157 = .ok (.goto 5, 3) := by decide +kernel
theorem dX4_count_160 : decode cX4_count 160 = .ok (.ldc 61, 2) := by decide +kernel
theorem dX4_count_162 : decode cX4_count 162 = .ok (.ireturn, 1) := by decide +kernel
theorem dX4_sharpen_0 : decode cX4_sharpen 0 = .ok (.aload_n 0, 1) := by decide +kernel
theorem dX4_sharpen_1 : decode cX4_sharpen 1 = .ok (.getfield 7, 3) := by decide +kernel
theorem dX4_sharpen_4 : decode cX4_sharpen 4 = .ok (.bipush 10, 2) := by decide +kernel
theorem dX4_sharpen_6 : decode cX4_sharpen 6 = .ok (.laload, 1) := by decide +kernel
theorem dX4_sharpen_7 : decode cX4_sharpen 7 = .ok (.ldc2_w 82, 3) := by decide +kernel
theorem dX4_sharpen_10 : decode cX4_sharpen 10 = .ok (.lcmp, 1) := by decide +kernel
theorem dX4_sharpen_11 : decode cX4_sharpen 11 = .ok (.ifCond .ne 6, 3) := by decide +kernel
theorem dX4_sharpen_14 : decode cX4_sharpen 14 = .ok (.ldc 84, 2) := by decide +kernel
theorem dX4_sharpen_16 : decode cX4_sharpen 16 = .ok (.ireturn, 1) := by decide +kernel
theorem dX4_sharpen_17 : decode cX4_sharpen 17 = .ok (.aload_n 0, 1) := by decide +kernel
theorem dX4_sharpen_18 : decode cX4_sharpen 18 = .ok (.invokevirtual 62, 3) := by decide +kernel
theorem dX4_sharpen_21 : decode cX4_sharpen 21 = .ok (.aload_n 0, 1) := by decide +kernel
theorem dX4_sharpen_22 : decode cX4_sharpen 22 = .ok (.bipush 9, 2) := by decide +kernel
theorem dX4_sharpen_24 : decode cX4_sharpen 24 = .ok (.invokevirtual 65, 3) := by decide +kernel
theorem dX4_sharpen_27 : decode cX4_sharpen 27 = .ok (.istore_n 1, 1) := by decide +kernel
theorem dX4_sharpen_28 : decode cX4_sharpen 28 = .ok (.aload_n 0, 1) := by decide +kernel
theorem dX4_sharpen_29 : decode cX4_sharpen 29 = .ok (.getfield 7, 3) := by decide +kernel
theorem dX4_sharpen_32 : decode cX4_sharpen 32 = .ok (.bipush 10, 2) := by decide +kernel
theorem dX4_sharpen_34 : decode cX4_sharpen 34 = .ok (.dup2, 1) := by decide +kernel
theorem dX4_sharpen_35 : decode cX4_sharpen 35 = .ok (.laload, 1) := by decide +kernel
theorem dX4_sharpen_36 : decode cX4_sharpen 36 = .ok (.lconst 1, 1) := by decide +kernel
theorem dX4_sharpen_37 : decode cX4_sharpen 37 = .ok (.ladd, 1) := by decide +kernel
theorem dX4_sharpen_38 : decode cX4_sharpen 38 = .ok (.lastore, 1) := by decide +kernel
theorem dX4_sharpen_39 : decode cX4_sharpen 39 = .ok (.aload_n 0, 1) := by decide +kernel
theorem dX4_sharpen_40 : decode cX4_sharpen 40 = .ok (.getfield 7, 3) := by decide +kernel
theorem dX4_sharpen_43 : decode cX4_sharpen 43 = .ok (.bipush 9, 2) := by decide +kernel
theorem dX4_sharpen_45 : decode cX4_sharpen 45 = .ok (.lconst 0, 1) := by decide +kernel
theorem dX4_sharpen_46 : decode cX4_sharpen 46 = .ok (.lastore, 1) := by decide +kernel
theorem dX4_sharpen_47 : decode cX4_sharpen 47 = .ok (.iload_n 1, 1) := by decide +kernel
theorem dX4_sharpen_48 : decode cX4_sharpen 48 = .ok (.ireturn, 1) := by decide +kernel
theorem dX4_isDrawing_0 : decode cX4_isDrawing 0 = .ok (.iload_n 1, 1) := by decide +kernel
theorem dX4_isDrawing_1 : decode cX4_isDrawing 1 = .ok (.iconst 0, 1) := by decide +kernel
theorem dX4_isDrawing_2 : decode cX4_isDrawing 2 = .ok (.aload_n 0, 1) := by decide +kernel
theorem dX4_isDrawing_3 : decode cX4_isDrawing 3 = .ok (.bipush 14, 2) := by decide +kernel
theorem dX4_isDrawing_5 : decode cX4_isDrawing 5 = .ok (.invokevirtual 65, 3) := by decide +kernel
theorem dX4_isDrawing_8 : decode cX4_isDrawing 8 = .ok (.iconst 1, 1) := by decide +kernel
theorem dX4_isDrawing_9 : decode cX4_isDrawing 9 = .ok (.isub, 1) := by decide +kernel
theorem dX4_isDrawing_10 : decode cX4_isDrawing 10 = .ok (.invokestatic 57, 3) := by decide +kernel
theorem dX4_isDrawing_13 : decode cX4_isDrawing 13 = .ok (.ireturn, 1) := by decide +kernel
theorem dX4_head_0 : decode cX4_head 0 = .ok (.bipush 15, 2) := by decide +kernel
theorem dX4_head_2 : decode cX4_head 2 = .ok (.sipush 150, 3) := by decide +kernel
theorem dX4_head_5 : decode cX4_head 5 = .ok (.iload_n 0, 1) := by decide +kernel
theorem dX4_head_6 : decode cX4_head 6 = .ok (.imul, 1) := by decide +kernel
theorem dX4_head_7 : decode cX4_head 7 = .ok (.iadd, 1) := by decide +kernel
theorem dX4_head_8 : decode cX4_head 8 = .ok (.iload_n 1, 1) := by decide +kernel
theorem dX4_head_9 : decode cX4_head 9 = .ok (.iadd, 1) := by decide +kernel
theorem dX4_head_10 : decode cX4_head 10 = .ok (.ireturn, 1) := by decide +kernel
theorem dX4_cellOf_0 : decode cX4_cellOf 0 = .ok (.bipush 15, 2) := by decide +kernel
theorem dX4_cellOf_2 : decode cX4_cellOf 2 = .ok (.sipush 150, 3) := by decide +kernel
theorem dX4_cellOf_5 : decode cX4_cellOf 5 = .ok (.iload_n 0, 1) := by decide +kernel
theorem dX4_cellOf_6 : decode cX4_cellOf 6 = .ok (.imul, 1) := by decide +kernel
theorem dX4_cellOf_7 : decode cX4_cellOf 7 = .ok (.iadd, 1) := by decide +kernel
theorem dX4_cellOf_8 : decode cX4_cellOf 8 = .ok (.bipush 10, 2) := by decide +kernel
theorem dX4_cellOf_10 : decode cX4_cellOf 10 = .ok (.iadd, 1) := by decide +kernel
theorem dX4_cellOf_11 : decode cX4_cellOf 11 = .ok (.bipush 7, 2) := by decide +kernel
theorem dX4_cellOf_13 : decode cX4_cellOf 13 = .ok (.iload_n 1, 1) := by decide +kernel
theorem dX4_cellOf_14 : decode cX4_cellOf 14 = .ok (.imul, 1) := by decide +kernel
theorem dX4_cellOf_15 : decode cX4_cellOf 15 = .ok (.iadd, 1) := by decide +kernel
theorem dX4_cellOf_16 : decode cX4_cellOf 16 = .ok (.ireturn, 1) := by decide +kernel
theorem dX4_points_0 : decode cX4_points 0 = .ok (.aload_n 0, 1) := by decide +kernel
theorem dX4_points_1 : decode cX4_points 1 = .ok (.iload_n 1, 1) := by decide +kernel
theorem dX4_points_2 : decode cX4_points 2 = .ok (.iconst 0, 1) := by decide +kernel
theorem dX4_points_3 : decode cX4_points 3 = .ok (.invokestatic 85, 3) := by decide +kernel
theorem dX4_points_6 : decode cX4_points 6 = .ok (.invokevirtual 65, 3) := by decide +kernel
theorem dX4_points_9 : decode cX4_points 9 = .ok (.ireturn, 1) := by decide +kernel
theorem dX4_isPoint_0 : decode cX4_isPoint 0 = .ok (.aload_n 0, 1) := by decide +kernel
theorem dX4_isPoint_1 : decode cX4_isPoint 1 = .ok (.iload_n 1, 1) := by decide +kernel
theorem dX4_isPoint_2 : decode cX4_isPoint 2 = .ok (.invokevirtual 89, 3) := by decide +kernel
theorem dX4_isPoint_5 : decode cX4_isPoint 5 = .ok (.ifCond .eq 22, 3) := by decide +kernel
theorem dX4_isPoint_8 : decode cX4_isPoint 8 = .ok (.iload_n 2, 1) := by decide +kernel
theorem dX4_isPoint_9 : decode cX4_isPoint 9 = .ok (.iconst 0, 1) := by decide +kernel
theorem dX4_isPoint_10 : decode cX4_isPoint 10 = .ok (.aload_n 0, 1) := by decide +kernel
theorem dX4_isPoint_11 : decode cX4_isPoint 11 = .ok (.iload_n 1, 1) := by decide +kernel
theorem dX4_isPoint_12 : decode cX4_isPoint 12 = .ok (.invokevirtual 93, 3) := by decide +kernel
theorem dX4_isPoint_15 : decode cX4_isPoint 15 = .ok (.iconst 1, 1) := by decide +kernel
theorem dX4_isPoint_16 : decode cX4_isPoint 16 = .ok (.isub, 1) := by decide +kernel
theorem dX4_isPoint_17 : decode cX4_isPoint 17 = .ok (.invokestatic 57, 3) := by decide +kernel
theorem dX4_isPoint_20 : decode cX4_isPoint 20 = .ok (.ifCond .eq 7, 3) := by decide +kernel
theorem dX4_isPoint_23 : decode cX4_isPoint 23 = .ok (.iconst 1, 1) := by decide +kernel
theorem dX4_isPoint_24 : decode cX4_isPoint 24 = .ok (.goto 4, 3) := by decide +kernel
theorem dX4_isPoint_27 : decode cX4_isPoint 27 = .ok (.iconst 0, 1) := by decide +kernel
theorem dX4_isPoint_28 : decode cX4_isPoint 28 = .ok (.ireturn, 1) := by decide +kernel
theorem dX4_isCopied_0 : decode cX4_isCopied 0 = .ok (.iconst 0, 1) := by decide +kernel
theorem dX4_isCopied_1 : decode cX4_isCopied 1 = .ok (.istore_n 2, 1) := by decide +kernel
theorem dX4_isCopied_2 : decode cX4_isCopied 2 = .ok (.iconst 0, 1) := by decide +kernel
theorem dX4_isCopied_3 : decode cX4_isCopied 3 = .ok (.istore_n 3, 1) := by decide +kernel
theorem dX4_isCopied_4 : decode cX4_isCopied 4 = .ok (.iload_n 3, 1) := by decide +kernel
theorem dX4_isCopied_5 : decode cX4_isCopied 5 = .ok (.aload_n 0, 1) := by decide +kernel
theorem dX4_isCopied_6 : decode cX4_isCopied 6 = .ok (.bipush 14, 2) := by decide +kernel
theorem dX4_isCopied_8 : decode cX4_isCopied 8 = .ok (.invokevirtual 65, 3) := by decide +kernel
theorem dX4_isCopied_11 : decode cX4_isCopied 11 = .ok (.if_icmp .ge 32, 3) := by decide +kernel
theorem dX4_isCopied_14 : decode cX4_isCopied 14 = .ok (.iload_n 2, 1) := by decide +kernel
theorem dX4_isCopied_15 : decode cX4_isCopied 15 = .ok (.ifCond .ne 16, 3) := by decide +kernel
theorem dX4_isCopied_18 : decode cX4_isCopied 18 = .ok (.aload_n 0, 1) := by decide +kernel
theorem dX4_isCopied_19 : decode cX4_isCopied 19 = .ok (.iload_n 3, 1) := by decide +kernel
theorem dX4_isCopied_20 : decode cX4_isCopied 20 = .ok (.iconst 1, 1) := by decide +kernel
theorem dX4_isCopied_21 : decode cX4_isCopied 21 = .ok (.invokestatic 85, 3) := by decide +kernel
theorem dX4_isCopied_24 : decode cX4_isCopied 24 = .ok (.invokevirtual 65, 3) := by decide +kernel
theorem dX4_isCopied_27 : decode cX4_isCopied 27 = .ok (.iload_n 1, 1) := by decide +kernel
theorem dX4_isCopied_28 : decode cX4_isCopied 28 = .ok (.if_icmp .ne 7, 3) := by decide +kernel
theorem dX4_isCopied_31 : decode cX4_isCopied 31 = .ok (.iconst 1, 1) := by decide +kernel
theorem dX4_isCopied_32 : decode cX4_isCopied 32 = .ok (.goto 4, 3) := by decide +kernel
theorem dX4_isCopied_35 : decode cX4_isCopied 35 = .ok (.iconst 0, 1) := by decide +kernel
theorem dX4_isCopied_36 : decode cX4_isCopied 36 = .ok (.istore_n 2, 1) := by decide +kernel
theorem dX4_isCopied_37 : decode cX4_isCopied 37 = .ok (.iinc 3 1, 3) := by decide +kernel
theorem dX4_isCopied_40 : decode cX4_isCopied 40 = .ok (.goto (-36), 3) := by decide +kernel
theorem dX4_isCopied_43 : decode cX4_isCopied 43 = .ok (.iload_n 2, 1) := by decide +kernel
theorem dX4_isCopied_44 : decode cX4_isCopied 44 = .ok (.ireturn, 1) := by decide +kernel
theorem dX4_begins_0 : decode cX4_begins 0 = .ok (.aload_n 0, 1) := by decide +kernel
theorem dX4_begins_1 : decode cX4_begins 1 = .ok (.bipush 14, 2) := by decide +kernel
theorem dX4_begins_3 : decode cX4_begins 3 = .ok (.invokevirtual 65, 3) := by decide +kernel
theorem dX4_begins_6 : decode cX4_begins 6 = .ok (.istore_n 1, 1) := by decide +kernel
theorem dX4_begins_7 : decode cX4_begins 7 = .ok (.aload_n 0, 1) := by decide +kernel
theorem dX4_begins_8 : decode cX4_begins 8 = .ok (.getfield 7, 3) := by decide +kernel
theorem dX4_begins_11 : decode cX4_begins 11 = .ok (.bipush 14, 2) := by decide +kernel
theorem dX4_begins_13 : decode cX4_begins 13 = .ok (.dup2, 1) := by decide +kernel
theorem dX4_begins_14 : decode cX4_begins 14 = .ok (.laload, 1) := by decide +kernel
theorem dX4_begins_15 : decode cX4_begins 15 = .ok (.lconst 1, 1) := by decide +kernel
theorem dX4_begins_16 : decode cX4_begins 16 = .ok (.ladd, 1) := by decide +kernel
theorem dX4_begins_17 : decode cX4_begins 17 = .ok (.lastore, 1) := by decide +kernel
theorem dX4_begins_18 : decode cX4_begins 18 = .ok (.iconst 0, 1) := by decide +kernel
theorem dX4_begins_19 : decode cX4_begins 19 = .ok (.istore_n 2, 1) := by decide +kernel
theorem dX4_begins_20 : decode cX4_begins 20 = .ok (.iload_n 2, 1) := by decide +kernel
theorem dX4_begins_21 : decode cX4_begins 21 = .ok (.sipush 150, 3) := by decide +kernel
theorem dX4_begins_24 : decode cX4_begins 24 = .ok (.if_icmp .ge 20, 3) := by decide +kernel
theorem dX4_begins_27 : decode cX4_begins 27 = .ok (.aload_n 0, 1) := by decide +kernel
theorem dX4_begins_28 : decode cX4_begins 28 = .ok (.getfield 7, 3) := by decide +kernel
theorem dX4_begins_31 : decode cX4_begins 31 = .ok (.iload_n 1, 1) := by decide +kernel
theorem dX4_begins_32 : decode cX4_begins 32 = .ok (.iload_n 2, 1) := by decide +kernel
theorem dX4_begins_33 : decode cX4_begins 33 = .ok (.invokestatic 85, 3) := by decide +kernel
theorem dX4_begins_36 : decode cX4_begins 36 = .ok (.lconst 0, 1) := by decide +kernel
theorem dX4_begins_37 : decode cX4_begins 37 = .ok (.lastore, 1) := by decide +kernel
theorem dX4_begins_38 : decode cX4_begins 38 = .ok (.iinc 2 1, 3) := by decide +kernel
theorem dX4_begins_41 : decode cX4_begins 41 = .ok (.goto (-21), 3) := by decide +kernel
theorem dX4_begins_44 : decode cX4_begins 44 = .ok (.aload_n 0, 1) := by decide +kernel
theorem dX4_begins_45 : decode cX4_begins 45 = .ok (.getfield 7, 3) := by decide +kernel
theorem dX4_begins_48 : decode cX4_begins 48 = .ok (.iload_n 1, 1) := by decide +kernel
theorem dX4_begins_49 : decode cX4_begins 49 = .ok (.iconst 1, 1) := by decide +kernel
theorem dX4_begins_50 : decode cX4_begins 50 = .ok (.invokestatic 85, 3) := by decide +kernel
theorem dX4_begins_53 : decode cX4_begins 53 = .ok (.ldc2_w 96, 3) := by decide +kernel
theorem dX4_begins_56 : decode cX4_begins 56 = .ok (.lastore, 1) := by decide +kernel
theorem dX4_begins_57 : decode cX4_begins 57 = .ok (.aload_n 0, 1) := by decide +kernel
theorem dX4_begins_58 : decode cX4_begins 58 = .ok (.getfield 7, 3) := by decide +kernel
theorem dX4_begins_61 : decode cX4_begins 61 = .ok (.iload_n 1, 1) := by decide +kernel
theorem dX4_begins_62 : decode cX4_begins 62 = .ok (.iconst 2, 1) := by decide +kernel
theorem dX4_begins_63 : decode cX4_begins 63 = .ok (.invokestatic 85, 3) := by decide +kernel
theorem dX4_begins_66 : decode cX4_begins 66 = .ok (.lconst 1, 1) := by decide +kernel
theorem dX4_begins_67 : decode cX4_begins 67 = .ok (.lastore, 1) := by decide +kernel
theorem dX4_begins_68 : decode cX4_begins 68 = .ok (.aload_n 0, 1) := by decide +kernel
theorem dX4_begins_69 : decode cX4_begins 69 = .ok (.getfield 7, 3) := by decide +kernel
theorem dX4_begins_72 : decode cX4_begins 72 = .ok (.iload_n 1, 1) := by decide +kernel
theorem dX4_begins_73 : decode cX4_begins 73 = .ok (.iconst 3, 1) := by decide +kernel
theorem dX4_begins_74 : decode cX4_begins 74 = .ok (.invokestatic 85, 3) := by decide +kernel
theorem dX4_begins_77 : decode cX4_begins 77 = .ok (.lconst 1, 1) := by decide +kernel
theorem dX4_begins_78 : decode cX4_begins 78 = .ok (.lastore, 1) := by decide +kernel
theorem dX4_begins_79 : decode cX4_begins 79 = .ok (.aload_n 0, 1) := by decide +kernel
theorem dX4_begins_80 : decode cX4_begins 80 = .ok (.getfield 7, 3) := by decide +kernel
theorem dX4_begins_83 : decode cX4_begins 83 = .ok (.iload_n 1, 1) := by decide +kernel
theorem dX4_begins_84 : decode cX4_begins 84 = .ok (.iconst 4, 1) := by decide +kernel
theorem dX4_begins_85 : decode cX4_begins 85 = .ok (.invokestatic 85, 3) := by decide +kernel
theorem dX4_begins_88 : decode cX4_begins 88 = .ok (.lconst 1, 1) := by decide +kernel
theorem dX4_begins_89 : decode cX4_begins 89 = .ok (.lastore, 1) := by decide +kernel
theorem dX4_begins_90 : decode cX4_begins 90 = .ok (.aload_n 0, 1) := by decide +kernel
theorem dX4_begins_91 : decode cX4_begins 91 = .ok (.getfield 7, 3) := by decide +kernel
theorem dX4_begins_94 : decode cX4_begins 94 = .ok (.iload_n 1, 1) := by decide +kernel
theorem dX4_begins_95 : decode cX4_begins 95 = .ok (.iconst 5, 1) := by decide +kernel
theorem dX4_begins_96 : decode cX4_begins 96 = .ok (.invokestatic 85, 3) := by decide +kernel
theorem dX4_begins_99 : decode cX4_begins 99 = .ok (.lconst 1, 1) := by decide +kernel
theorem dX4_begins_100 : decode cX4_begins 100 = .ok (.lastore, 1) := by decide +kernel
theorem dX4_begins_101 : decode cX4_begins 101 = .ok (.aload_n 0, 1) := by decide +kernel
theorem dX4_begins_102 : decode cX4_begins 102 = .ok (.getfield 7, 3) := by decide +kernel
theorem dX4_begins_105 : decode cX4_begins 105 = .ok (.iload_n 1, 1) := by decide +kernel
theorem dX4_begins_106 : decode cX4_begins 106 = .ok (.bipush 7, 2) := by decide +kernel
theorem dX4_begins_108 : decode cX4_begins 108 = .ok (.invokestatic 85, 3) := by decide +kernel
theorem dX4_begins_111 : decode cX4_begins 111 = .ok (.lconst 1, 1) := by decide +kernel
theorem dX4_begins_112 : decode cX4_begins 112 = .ok (.lastore, 1) := by decide +kernel
theorem dX4_begins_113 : decode cX4_begins 113 = .ok (.aload_n 0, 1) := by decide +kernel
theorem dX4_begins_114 : decode cX4_begins 114 = .ok (.getfield 7, 3) := by decide +kernel
theorem dX4_begins_117 : decode cX4_begins 117 = .ok (.iload_n 1, 1) := by decide +kernel
theorem dX4_begins_118 : decode cX4_begins 118 = .ok (.bipush 9, 2) := by decide +kernel
theorem dX4_begins_120 : decode cX4_begins 120 = .ok (.invokestatic 85, 3) := by decide +kernel
theorem dX4_begins_123 : decode cX4_begins 123 = .ok (.lconst 1, 1) := by decide +kernel
theorem dX4_begins_124 : decode cX4_begins 124 = .ok (.lastore, 1) := by decide +kernel
theorem dX4_begins_125 : decode cX4_begins 125 = .ok (.iload_n 1, 1) := by decide +kernel
theorem dX4_begins_126 : decode cX4_begins 126 = .ok (.ireturn, 1) := by decide +kernel
theorem dX4_draw_0 : decode cX4_draw 0 = .ok (.aload_n 0, 1) := by decide +kernel
theorem dX4_draw_1 : decode cX4_draw 1 = .ok (.getfield 7, 3) := by decide +kernel
theorem dX4_draw_4 : decode cX4_draw 4 = .ok (.bipush 14, 2) := by decide +kernel
theorem dX4_draw_6 : decode cX4_draw 6 = .ok (.laload, 1) := by decide +kernel
theorem dX4_draw_7 : decode cX4_draw 7 = .ok (.ldc2_w 98, 3) := by decide +kernel
theorem dX4_draw_10 : decode cX4_draw 10 = .ok (.lcmp, 1) := by decide +kernel
theorem dX4_draw_11 : decode cX4_draw 11 = .ok (.ifCond .ne 6, 3) := by decide +kernel
theorem dX4_draw_14 : decode cX4_draw 14 = .ok (.ldc 84, 2) := by decide +kernel
theorem dX4_draw_16 : decode cX4_draw 16 = .ok (.ireturn, 1) := by decide +kernel
theorem dX4_draw_17 : decode cX4_draw 17 = .ok (.aload_n 0, 1) := by decide +kernel
theorem dX4_draw_18 : decode cX4_draw 18 = .ok (.invokevirtual 62, 3) := by decide +kernel
theorem dX4_draw_21 : decode cX4_draw 21 = .ok (.aload_n 0, 1) := by decide +kernel
theorem dX4_draw_22 : decode cX4_draw 22 = .ok (.invokevirtual 100, 3) := by decide +kernel
theorem dX4_draw_25 : decode cX4_draw 25 = .ok (.ireturn, 1) := by decide +kernel
theorem dX4_lengthTo_0 : decode cX4_lengthTo 0 = .ok (.iload_n 1, 1) := by decide +kernel
theorem dX4_lengthTo_1 : decode cX4_lengthTo 1 = .ok (.iload_n 2, 1) := by decide +kernel
theorem dX4_lengthTo_2 : decode cX4_lengthTo 2 = .ok (.invokestatic 104, 3) := by decide +kernel
theorem dX4_lengthTo_5 : decode cX4_lengthTo 5 = .ok (.istore_n 3, 1) := by decide +kernel
theorem dX4_lengthTo_6 : decode cX4_lengthTo 6 = .ok (.iload_n 1, 1) := by decide +kernel
theorem dX4_lengthTo_7 : decode cX4_lengthTo 7 = .ok (.iload_n 2, 1) := by decide +kernel
theorem dX4_lengthTo_8 : decode cX4_lengthTo 8 = .ok (.iconst 1, 1) := by decide +kernel
theorem dX4_lengthTo_9 : decode cX4_lengthTo 9 = .ok (.isub, 1) := by decide +kernel
theorem dX4_lengthTo_10 : decode cX4_lengthTo 10 = .ok (.invokestatic 104, 3) := by decide +kernel
theorem dX4_lengthTo_13 : decode cX4_lengthTo 13 = .ok (.istore 4, 2) := by decide +kernel
theorem dX4_lengthTo_15 : decode cX4_lengthTo 15 = .ok (.aload_n 0, 1) := by decide +kernel
theorem dX4_lengthTo_16 : decode cX4_lengthTo 16 = .ok (.aload_n 0, 1) := by decide +kernel
theorem dX4_lengthTo_17 : decode cX4_lengthTo 17 = .ok (.getfield 7, 3) := by decide +kernel
theorem dX4_lengthTo_20 : decode cX4_lengthTo 20 = .ok (.iload_n 3, 1) := by decide +kernel
theorem dX4_lengthTo_21 : decode cX4_lengthTo 21 = .ok (.laload, 1) := by decide +kernel
theorem dX4_lengthTo_22 : decode cX4_lengthTo 22 = .ok (.aload_n 0, 1) := by decide +kernel
theorem dX4_lengthTo_23 : decode cX4_lengthTo 23 = .ok (.getfield 7, 3) := by decide +kernel
theorem dX4_lengthTo_26 : decode cX4_lengthTo 26 = .ok (.iload_n 3, 1) := by decide +kernel
theorem dX4_lengthTo_27 : decode cX4_lengthTo 27 = .ok (.iconst 1, 1) := by decide +kernel
theorem dX4_lengthTo_28 : decode cX4_lengthTo 28 = .ok (.iadd, 1) := by decide +kernel
theorem dX4_lengthTo_29 : decode cX4_lengthTo 29 = .ok (.laload, 1) := by decide +kernel
theorem dX4_lengthTo_30 : decode cX4_lengthTo 30 = .ok (.ldc2_w 96, 3) := by decide +kernel
theorem dX4_lengthTo_33 : decode cX4_lengthTo 33 = .ok (.aload_n 0, 1) := by decide +kernel
theorem dX4_lengthTo_34 : decode cX4_lengthTo 34 = .ok (.getfield 7, 3) := by decide +kernel
theorem dX4_lengthTo_37 : decode cX4_lengthTo 37 = .ok (.iload 4, 2) := by decide +kernel
theorem dX4_lengthTo_39 : decode cX4_lengthTo 39 = .ok (.laload, 1) := by decide +kernel
theorem dX4_lengthTo_40 : decode cX4_lengthTo 40 = .ok (.aload_n 0, 1) := by decide +kernel
theorem dX4_lengthTo_41 : decode cX4_lengthTo 41 = .ok (.getfield 7, 3) := by decide +kernel
theorem dX4_lengthTo_44 : decode cX4_lengthTo 44 = .ok (.iload 4, 2) := by decide +kernel
theorem dX4_lengthTo_46 : decode cX4_lengthTo 46 = .ok (.iconst 1, 1) := by decide +kernel
theorem dX4_lengthTo_47 : decode cX4_lengthTo 47 = .ok (.iadd, 1) := by decide +kernel
theorem dX4_lengthTo_48 : decode cX4_lengthTo 48 = .ok (.laload, 1) := by decide +kernel
theorem dX4_lengthTo_49 : decode cX4_lengthTo 49 = .ok (.invokevirtual 107, 3) := by decide +kernel
theorem dX4_lengthTo_52 : decode cX4_lengthTo 52 = .ok (.aload_n 0, 1) := by decide +kernel
theorem dX4_lengthTo_53 : decode cX4_lengthTo 53 = .ok (.getfield 46, 3) := by decide +kernel
theorem dX4_lengthTo_56 : decode cX4_lengthTo 56 = .ok (.invokestatic 30, 3) := by decide +kernel
theorem dX4_lengthTo_59 : decode cX4_lengthTo 59 = .ok (.lstore 5, 2) := by decide +kernel
theorem dX4_lengthTo_61 : decode cX4_lengthTo 61 = .ok (.aload_n 0, 1) := by decide +kernel
theorem dX4_lengthTo_62 : decode cX4_lengthTo 62 = .ok (.getfield 50, 3) := by decide +kernel
theorem dX4_lengthTo_65 : decode cX4_lengthTo 65 = .ok (.lstore 7, 2) := by decide +kernel
theorem dX4_lengthTo_67 : decode cX4_lengthTo 67 = .ok (.aload_n 0, 1) := by decide +kernel
theorem dX4_lengthTo_68 : decode cX4_lengthTo 68 = .ok (.aload_n 0, 1) := by decide +kernel
theorem dX4_lengthTo_69 : decode cX4_lengthTo 69 = .ok (.getfield 7, 3) := by decide +kernel
theorem dX4_lengthTo_72 : decode cX4_lengthTo 72 = .ok (.iload_n 3, 1) := by decide +kernel
theorem dX4_lengthTo_73 : decode cX4_lengthTo 73 = .ok (.iconst 2, 1) := by decide +kernel
theorem dX4_lengthTo_74 : decode cX4_lengthTo 74 = .ok (.iadd, 1) := by decide +kernel
theorem dX4_lengthTo_75 : decode cX4_lengthTo 75 = .ok (.laload, 1) := by decide +kernel
theorem dX4_lengthTo_76 : decode cX4_lengthTo 76 = .ok (.aload_n 0, 1) := by decide +kernel
theorem dX4_lengthTo_77 : decode cX4_lengthTo 77 = .ok (.getfield 7, 3) := by decide +kernel
theorem dX4_lengthTo_80 : decode cX4_lengthTo 80 = .ok (.iload_n 3, 1) := by decide +kernel
theorem dX4_lengthTo_81 : decode cX4_lengthTo 81 = .ok (.iconst 3, 1) := by decide +kernel
theorem dX4_lengthTo_82 : decode cX4_lengthTo 82 = .ok (.iadd, 1) := by decide +kernel
theorem dX4_lengthTo_83 : decode cX4_lengthTo 83 = .ok (.laload, 1) := by decide +kernel
theorem dX4_lengthTo_84 : decode cX4_lengthTo 84 = .ok (.ldc2_w 96, 3) := by decide +kernel
theorem dX4_lengthTo_87 : decode cX4_lengthTo 87 = .ok (.aload_n 0, 1) := by decide +kernel
theorem dX4_lengthTo_88 : decode cX4_lengthTo 88 = .ok (.getfield 7, 3) := by decide +kernel
theorem dX4_lengthTo_91 : decode cX4_lengthTo 91 = .ok (.iload 4, 2) := by decide +kernel
theorem dX4_lengthTo_93 : decode cX4_lengthTo 93 = .ok (.iconst 2, 1) := by decide +kernel
theorem dX4_lengthTo_94 : decode cX4_lengthTo 94 = .ok (.iadd, 1) := by decide +kernel
theorem dX4_lengthTo_95 : decode cX4_lengthTo 95 = .ok (.laload, 1) := by decide +kernel
theorem dX4_lengthTo_96 : decode cX4_lengthTo 96 = .ok (.aload_n 0, 1) := by decide +kernel
theorem dX4_lengthTo_97 : decode cX4_lengthTo 97 = .ok (.getfield 7, 3) := by decide +kernel
theorem dX4_lengthTo_100 : decode cX4_lengthTo 100 = .ok (.iload 4, 2) := by decide +kernel
theorem dX4_lengthTo_102 : decode cX4_lengthTo 102 = .ok (.iconst 3, 1) := by decide +kernel
theorem dX4_lengthTo_103 : decode cX4_lengthTo 103 = .ok (.iadd, 1) := by decide +kernel
theorem dX4_lengthTo_104 : decode cX4_lengthTo 104 = .ok (.laload, 1) := by decide +kernel
theorem dX4_lengthTo_105 : decode cX4_lengthTo 105 = .ok (.invokevirtual 107, 3) := by decide +kernel
theorem dX4_lengthTo_108 : decode cX4_lengthTo 108 = .ok (.aload_n 0, 1) := by decide +kernel
theorem dX4_lengthTo_109 : decode cX4_lengthTo 109 = .ok (.lload 5, 2) := by decide +kernel
theorem dX4_lengthTo_111 : decode cX4_lengthTo 111 = .ok (.lload 7, 2) := by decide +kernel
theorem dX4_lengthTo_113 : decode cX4_lengthTo 113 = .ok (.lconst 1, 1) := by decide +kernel
theorem dX4_lengthTo_114 : decode cX4_lengthTo 114 = .ok (.aload_n 0, 1) := by decide +kernel
theorem dX4_lengthTo_115 : decode cX4_lengthTo 115 = .ok (.getfield 46, 3) := by decide +kernel
theorem dX4_lengthTo_118 : decode cX4_lengthTo 118 = .ok (.invokestatic 30, 3) := by decide +kernel
theorem dX4_lengthTo_121 : decode cX4_lengthTo 121 = .ok (.aload_n 0, 1) := by decide +kernel
theorem dX4_lengthTo_122 : decode cX4_lengthTo 122 = .ok (.getfield 50, 3) := by decide +kernel
theorem dX4_lengthTo_125 : decode cX4_lengthTo 125 = .ok (.invokevirtual 107, 3) := by decide +kernel
theorem dX4_lengthTo_128 : decode cX4_lengthTo 128 = .ok (.aload_n 0, 1) := by decide +kernel
theorem dX4_lengthTo_129 : decode cX4_lengthTo 129 = .ok (.getfield 46, 3) := by decide +kernel
theorem dX4_lengthTo_132 : decode cX4_lengthTo 132 = .ok (.aload_n 0, 1) := by decide +kernel
theorem dX4_lengthTo_133 : decode cX4_lengthTo 133 = .ok (.getfield 50, 3) := by decide +kernel
theorem dX4_lengthTo_136 : decode cX4_lengthTo 136 = .ok (.ldiv, 1) := by decide +kernel
theorem dX4_lengthTo_137 : decode cX4_lengthTo 137 = .ok (.l2i, 1) := by decide +kernel
theorem dX4_lengthTo_138 : decode cX4_lengthTo 138 = .ok (.ireturn, 1) := by decide +kernel
theorem dX4_adds_0 : decode cX4_adds 0 = .ok (.aload_n 0, 1) := by decide +kernel
theorem dX4_adds_1 : decode cX4_adds 1 = .ok (.iload_n 1, 1) := by decide +kernel
theorem dX4_adds_2 : decode cX4_adds 2 = .ok (.invokevirtual 93, 3) := by decide +kernel
theorem dX4_adds_5 : decode cX4_adds 5 = .ok (.istore 5, 2) := by decide +kernel
theorem dX4_adds_7 : decode cX4_adds 7 = .ok (.iload_n 1, 1) := by decide +kernel
theorem dX4_adds_8 : decode cX4_adds 8 = .ok (.iload 5, 2) := by decide +kernel
theorem dX4_adds_10 : decode cX4_adds 10 = .ok (.invokestatic 104, 3) := by decide +kernel
theorem dX4_adds_13 : decode cX4_adds 13 = .ok (.istore 6, 2) := by decide +kernel
theorem dX4_adds_15 : decode cX4_adds 15 = .ok (.iload 4, 2) := by decide +kernel
theorem dX4_adds_17 : decode cX4_adds 17 = .ok (.iconst 1, 1) := by decide +kernel
theorem dX4_adds_18 : decode cX4_adds 18 = .ok (.if_icmp .ne 12, 3) := by decide +kernel
theorem dX4_adds_21 : decode cX4_adds 21 = .ok (.iload 5, 2) := by decide +kernel
theorem dX4_adds_23 : decode cX4_adds 23 = .ok (.ifCond .le 7, 3) := by decide +kernel
theorem dX4_adds_26 : decode cX4_adds 26 = .ok (.iconst 1, 1) := by decide +kernel
theorem dX4_adds_27 : decode cX4_adds 27 = .ok (.goto 4, 3) := by decide +kernel
theorem dX4_adds_30 : decode cX4_adds 30 = .ok (.iconst 0, 1) := by decide +kernel
theorem dX4_adds_31 : decode cX4_adds 31 = .ok (.istore 7, 2) := by decide +kernel
theorem dX4_adds_33 : decode cX4_adds 33 = .ok (.aload_n 0, 1) := by decide +kernel
theorem dX4_adds_34 : decode cX4_adds 34 = .ok (.getfield 7, 3) := by decide +kernel
theorem dX4_adds_37 : decode cX4_adds 37 = .ok (.iload 6, 2) := by decide +kernel
theorem dX4_adds_39 : decode cX4_adds 39 = .ok (.iload_n 2, 1) := by decide +kernel
theorem dX4_adds_40 : decode cX4_adds 40 = .ok (.i2l, 1) := by decide +kernel
theorem dX4_adds_41 : decode cX4_adds 41 = .ok (.lastore, 1) := by decide +kernel
theorem dX4_adds_42 : decode cX4_adds 42 = .ok (.aload_n 0, 1) := by decide +kernel
theorem dX4_adds_43 : decode cX4_adds 43 = .ok (.getfield 7, 3) := by decide +kernel
theorem dX4_adds_46 : decode cX4_adds 46 = .ok (.iload 6, 2) := by decide +kernel
theorem dX4_adds_48 : decode cX4_adds 48 = .ok (.iconst 1, 1) := by decide +kernel
theorem dX4_adds_49 : decode cX4_adds 49 = .ok (.iadd, 1) := by decide +kernel
theorem dX4_adds_50 : decode cX4_adds 50 = .ok (.lconst 1, 1) := by decide +kernel
theorem dX4_adds_51 : decode cX4_adds 51 = .ok (.lastore, 1) := by decide +kernel
theorem dX4_adds_52 : decode cX4_adds 52 = .ok (.aload_n 0, 1) := by decide +kernel
theorem dX4_adds_53 : decode cX4_adds 53 = .ok (.getfield 7, 3) := by decide +kernel
theorem dX4_adds_56 : decode cX4_adds 56 = .ok (.iload 6, 2) := by decide +kernel
theorem dX4_adds_58 : decode cX4_adds 58 = .ok (.iconst 2, 1) := by decide +kernel
theorem dX4_adds_59 : decode cX4_adds 59 = .ok (.iadd, 1) := by decide +kernel
theorem dX4_adds_60 : decode cX4_adds 60 = .ok (.iload_n 3, 1) := by decide +kernel
theorem dX4_adds_61 : decode cX4_adds 61 = .ok (.i2l, 1) := by decide +kernel
theorem dX4_adds_62 : decode cX4_adds 62 = .ok (.lastore, 1) := by decide +kernel
theorem dX4_adds_63 : decode cX4_adds 63 = .ok (.aload_n 0, 1) := by decide +kernel
theorem dX4_adds_64 : decode cX4_adds 64 = .ok (.getfield 7, 3) := by decide +kernel
theorem dX4_adds_67 : decode cX4_adds 67 = .ok (.iload 6, 2) := by decide +kernel
theorem dX4_adds_69 : decode cX4_adds 69 = .ok (.iconst 3, 1) := by decide +kernel
theorem dX4_adds_70 : decode cX4_adds 70 = .ok (.iadd, 1) := by decide +kernel
theorem dX4_adds_71 : decode cX4_adds 71 = .ok (.lconst 1, 1) := by decide +kernel
theorem dX4_adds_72 : decode cX4_adds 72 = .ok (.lastore, 1) := by decide +kernel
theorem dX4_adds_73 : decode cX4_adds 73 = .ok (.aload_n 0, 1) := by decide +kernel
theorem dX4_adds_74 : decode cX4_adds 74 = .ok (.getfield 7, 3) := by decide +kernel
theorem dX4_adds_77 : decode cX4_adds 77 = .ok (.iload 6, 2) := by decide +kernel
theorem dX4_adds_79 : decode cX4_adds 79 = .ok (.iconst 4, 1) := by decide +kernel
theorem dX4_adds_80 : decode cX4_adds 80 = .ok (.iadd, 1) := by decide +kernel
theorem dX4_adds_81 : decode cX4_adds 81 = .ok (.iload 7, 2) := by decide +kernel
theorem dX4_adds_83 : decode cX4_adds 83 = .ok (.ifCond .eq 7, 3) := by decide +kernel
theorem dX4_adds_86 : decode cX4_adds 86 = .ok (.lconst 1, 1) := by decide +kernel
theorem dX4_adds_87 : decode cX4_adds 87 = .ok (.goto 4, 3) := by decide +kernel
theorem dX4_adds_90 : decode cX4_adds 90 = .ok (.lconst 0, 1) := by decide +kernel
theorem dX4_adds_91 : decode cX4_adds 91 = .ok (.lastore, 1) := by decide +kernel
theorem dX4_adds_92 : decode cX4_adds 92 = .ok (.aload_n 0, 1) := by decide +kernel
theorem dX4_adds_93 : decode cX4_adds 93 = .ok (.getfield 7, 3) := by decide +kernel
theorem dX4_adds_96 : decode cX4_adds 96 = .ok (.iload 6, 2) := by decide +kernel
theorem dX4_adds_98 : decode cX4_adds 98 = .ok (.iconst 5, 1) := by decide +kernel
theorem dX4_adds_99 : decode cX4_adds 99 = .ok (.iadd, 1) := by decide +kernel
theorem dX4_adds_100 : decode cX4_adds 100 = .ok (.iload 7, 2) := by decide +kernel
theorem dX4_adds_102 : decode cX4_adds 102 = .ok (.ifCond .eq 7, 3) := by decide +kernel
theorem dX4_adds_105 : decode cX4_adds 105 = .ok (.lconst 1, 1) := by decide +kernel
theorem dX4_adds_106 : decode cX4_adds 106 = .ok (.goto 4, 3) := by decide +kernel
theorem dX4_adds_109 : decode cX4_adds 109 = .ok (.lconst 0, 1) := by decide +kernel
theorem dX4_adds_110 : decode cX4_adds 110 = .ok (.lastore, 1) := by decide +kernel
theorem dX4_adds_111 : decode cX4_adds 111 = .ok (.aload_n 0, 1) := by decide +kernel
theorem dX4_adds_112 : decode cX4_adds 112 = .ok (.getfield 7, 3) := by decide +kernel
theorem dX4_adds_115 : decode cX4_adds 115 = .ok (.iload 6, 2) := by decide +kernel
theorem dX4_adds_117 : decode cX4_adds 117 = .ok (.bipush 6, 2) := by decide +kernel
theorem dX4_adds_119 : decode cX4_adds 119 = .ok (.iadd, 1) := by decide +kernel
theorem dX4_adds_120 : decode cX4_adds 120 = .ok (.iload 7, 2) := by decide +kernel
theorem dX4_adds_122 : decode cX4_adds 122 = .ok (.ifCond .eq 14, 3) := by decide +kernel
theorem dX4_adds_125 : decode cX4_adds 125 = .ok (.aload_n 0, 1) := by decide +kernel
theorem dX4_adds_126 : decode cX4_adds 126 = .ok (.iload_n 1, 1) := by decide +kernel
theorem dX4_adds_127 : decode cX4_adds 127 = .ok (.iload 5, 2) := by decide +kernel
theorem dX4_adds_129 : decode cX4_adds 129 = .ok (.invokevirtual 111, 3) := by decide +kernel
theorem dX4_adds_132 : decode cX4_adds 132 = .ok (.i2l, 1) := by decide +kernel
theorem dX4_adds_133 : decode cX4_adds 133 = .ok (.goto 4, 3) := by decide +kernel
theorem dX4_adds_136 : decode cX4_adds 136 = .ok (.lconst 0, 1) := by decide +kernel
theorem dX4_adds_137 : decode cX4_adds 137 = .ok (.lastore, 1) := by decide +kernel
theorem dX4_adds_138 : decode cX4_adds 138 = .ok (.aload_n 0, 1) := by decide +kernel
theorem dX4_adds_139 : decode cX4_adds 139 = .ok (.getfield 7, 3) := by decide +kernel
theorem dX4_adds_142 : decode cX4_adds 142 = .ok (.iload_n 1, 1) := by decide +kernel
theorem dX4_adds_143 : decode cX4_adds 143 = .ok (.iconst 0, 1) := by decide +kernel
theorem dX4_adds_144 : decode cX4_adds 144 = .ok (.invokestatic 85, 3) := by decide +kernel
theorem dX4_adds_147 : decode cX4_adds 147 = .ok (.dup2, 1) := by decide +kernel
theorem dX4_adds_148 : decode cX4_adds 148 = .ok (.laload, 1) := by decide +kernel
theorem dX4_adds_149 : decode cX4_adds 149 = .ok (.lconst 1, 1) := by decide +kernel
theorem dX4_adds_150 : decode cX4_adds 150 = .ok (.ladd, 1) := by decide +kernel
theorem dX4_adds_151 : decode cX4_adds 151 = .ok (.lastore, 1) := by decide +kernel
theorem dX4_adds_152 : decode cX4_adds 152 = .ok (.return_, 1) := by decide +kernel
theorem dX4_point_0 : decode cX4_point 0 = .ok (.aload_n 0, 1) := by decide +kernel
theorem dX4_point_1 : decode cX4_point 1 = .ok (.iload_n 1, 1) := by decide +kernel
theorem dX4_point_2 : decode cX4_point 2 = .ok (.invokevirtual 89, 3) := by decide +kernel
theorem dX4_point_5 : decode cX4_point 5 = .ok (.ifCond .eq 35, 3) := by decide +kernel
theorem dX4_point_8 : decode cX4_point 8 = .ok (.iload_n 2, 1) := by decide +kernel
theorem dX4_point_9 : decode cX4_point 9 = .ok (.iconst 0, 1) := by decide +kernel
theorem dX4_point_10 : decode cX4_point 10 = .ok (.sipush 1000, 3) := by decide +kernel
theorem dX4_point_13 : decode cX4_point 13 = .ok (.invokestatic 57, 3) := by decide +kernel
theorem dX4_point_16 : decode cX4_point 16 = .ok (.ifCond .eq 24, 3) := by decide +kernel
theorem dX4_point_19 : decode cX4_point 19 = .ok (.iload_n 3, 1) := by decide +kernel
theorem dX4_point_20 : decode cX4_point 20 = .ok (.iconst 0, 1) := by decide +kernel
theorem dX4_point_21 : decode cX4_point 21 = .ok (.sipush 1000, 3) := by decide +kernel
theorem dX4_point_24 : decode cX4_point 24 = .ok (.invokestatic 57, 3) := by decide +kernel
theorem dX4_point_27 : decode cX4_point 27 = .ok (.ifCond .eq 13, 3) := by decide +kernel
theorem dX4_point_30 : decode cX4_point 30 = .ok (.iload 4, 2) := by decide +kernel
theorem dX4_point_32 : decode cX4_point 32 = .ok (.iconst 0, 1) := by decide +kernel
theorem dX4_point_33 : decode cX4_point 33 = .ok (.iconst 1, 1) := by decide +kernel
theorem dX4_point_34 : decode cX4_point 34 = .ok (.invokestatic 57, 3) := by decide +kernel
theorem dX4_point_37 : decode cX4_point 37 = .ok (.ifCond .ne 6, 3) := by decide +kernel
theorem dX4_point_40 : decode cX4_point 40 = .ok (.ldc 61, 2) := by decide +kernel
theorem dX4_point_42 : decode cX4_point 42 = .ok (.ireturn, 1) := by decide +kernel
theorem dX4_point_43 : decode cX4_point 43 = .ok (.aload_n 0, 1) := by decide +kernel
theorem dX4_point_44 : decode cX4_point 44 = .ok (.getfield 7, 3) := by decide +kernel
theorem dX4_point_47 : decode cX4_point 47 = .ok (.iload_n 1, 1) := by decide +kernel
theorem dX4_point_48 : decode cX4_point 48 = .ok (.iconst 1, 1) := by decide +kernel
theorem dX4_point_49 : decode cX4_point 49 = .ok (.invokestatic 85, 3) := by decide +kernel
theorem dX4_point_52 : decode cX4_point 52 = .ok (.laload, 1) := by decide +kernel
theorem dX4_point_53 : decode cX4_point 53 = .ok (.ldc2_w 96, 3) := by decide +kernel
theorem dX4_point_56 : decode cX4_point 56 = .ok (.lcmp, 1) := by decide +kernel
theorem dX4_point_57 : decode cX4_point 57 = .ok (.ifCond .ne 11, 3) := by decide +kernel
theorem dX4_point_60 : decode cX4_point 60 = .ok (.aload_n 0, 1) := by decide +kernel
theorem dX4_point_61 : decode cX4_point 61 = .ok (.iload_n 1, 1) := by decide +kernel
theorem dX4_point_62 : decode cX4_point 62 = .ok (.invokevirtual 114, 3) := by decide +kernel
theorem dX4_point_65 : decode cX4_point 65 = .ok (.ifCond .eq 6, 3) := by decide +kernel
theorem dX4_point_68 : decode cX4_point 68 = .ok (.ldc 117, 2) := by decide +kernel
theorem dX4_point_70 : decode cX4_point 70 = .ok (.ireturn, 1) := by decide +kernel
theorem dX4_point_71 : decode cX4_point 71 = .ok (.aload_n 0, 1) := by decide +kernel
theorem dX4_point_72 : decode cX4_point 72 = .ok (.iload_n 1, 1) := by decide +kernel
theorem dX4_point_73 : decode cX4_point 73 = .ok (.invokevirtual 93, 3) := by decide +kernel
theorem dX4_point_76 : decode cX4_point 76 = .ok (.bipush 20, 2) := by decide +kernel
theorem dX4_point_78 : decode cX4_point 78 = .ok (.if_icmp .ne 6, 3) := by decide +kernel
theorem dX4_point_81 : decode cX4_point 81 = .ok (.ldc 84, 2) := by decide +kernel
theorem dX4_point_83 : decode cX4_point 83 = .ok (.ireturn, 1) := by decide +kernel
theorem dX4_point_84 : decode cX4_point 84 = .ok (.aload_n 0, 1) := by decide +kernel
theorem dX4_point_85 : decode cX4_point 85 = .ok (.invokevirtual 62, 3) := by decide +kernel
theorem dX4_point_88 : decode cX4_point 88 = .ok (.aload_n 0, 1) := by decide +kernel
theorem dX4_point_89 : decode cX4_point 89 = .ok (.iload_n 1, 1) := by decide +kernel
theorem dX4_point_90 : decode cX4_point 90 = .ok (.iload_n 2, 1) := by decide +kernel
theorem dX4_point_91 : decode cX4_point 91 = .ok (.iload_n 3, 1) := by decide +kernel
theorem dX4_point_92 : decode cX4_point 92 = .ok (.iload 4, 2) := by decide +kernel
theorem dX4_point_94 : decode cX4_point 94 = .ok (.invokevirtual 118, 3) := by decide +kernel
theorem dX4_point_97 : decode cX4_point 97 = .ok (.aload_n 0, 1) := by decide +kernel
theorem dX4_point_98 : decode cX4_point 98 = .ok (.iload_n 1, 1) := by decide +kernel
theorem dX4_point_99 : decode cX4_point 99 = .ok (.invokevirtual 93, 3) := by decide +kernel
theorem dX4_point_102 : decode cX4_point 102 = .ok (.iconst 1, 1) := by decide +kernel
theorem dX4_point_103 : decode cX4_point 103 = .ok (.isub, 1) := by decide +kernel
theorem dX4_point_104 : decode cX4_point 104 = .ok (.ireturn, 1) := by decide +kernel
theorem dX4_remove_0 : decode cX4_remove 0 = .ok (.aload_n 0, 1) := by decide +kernel
theorem dX4_remove_1 : decode cX4_remove 1 = .ok (.iload_n 1, 1) := by decide +kernel
theorem dX4_remove_2 : decode cX4_remove 2 = .ok (.invokevirtual 89, 3) := by decide +kernel
theorem dX4_remove_5 : decode cX4_remove 5 = .ok (.ifCond .ne 6, 3) := by decide +kernel
theorem dX4_remove_8 : decode cX4_remove 8 = .ok (.ldc 61, 2) := by decide +kernel
theorem dX4_remove_10 : decode cX4_remove 10 = .ok (.ireturn, 1) := by decide +kernel
theorem dX4_remove_11 : decode cX4_remove 11 = .ok (.aload_n 0, 1) := by decide +kernel
theorem dX4_remove_12 : decode cX4_remove 12 = .ok (.iload_n 1, 1) := by decide +kernel
theorem dX4_remove_13 : decode cX4_remove 13 = .ok (.invokevirtual 114, 3) := by decide +kernel
theorem dX4_remove_16 : decode cX4_remove 16 = .ok (.ifCond .eq 6, 3) := by decide +kernel
theorem dX4_remove_19 : decode cX4_remove 19 = .ok (.ldc 117, 2) := by decide +kernel
theorem dX4_remove_21 : decode cX4_remove 21 = .ok (.ireturn, 1) := by decide +kernel
theorem dX4_remove_22 : decode cX4_remove 22 = .ok (.aload_n 0, 1) := by decide +kernel
theorem dX4_remove_23 : decode cX4_remove 23 = .ok (.invokevirtual 62, 3) := by decide +kernel
theorem dX4_remove_26 : decode cX4_remove 26 = .ok (.aload_n 0, 1) := by decide +kernel
theorem dX4_remove_27 : decode cX4_remove 27 = .ok (.getfield 7, 3) := by decide +kernel
theorem dX4_remove_30 : decode cX4_remove 30 = .ok (.bipush 14, 2) := by decide +kernel
theorem dX4_remove_32 : decode cX4_remove 32 = .ok (.dup2, 1) := by decide +kernel
theorem dX4_remove_33 : decode cX4_remove 33 = .ok (.laload, 1) := by decide +kernel
theorem dX4_remove_34 : decode cX4_remove 34 = .ok (.lconst 1, 1) := by decide +kernel
theorem dX4_remove_35 : decode cX4_remove 35 = .ok (.lsub, 1) := by decide +kernel
theorem dX4_remove_36 : decode cX4_remove 36 = .ok (.lastore, 1) := by decide +kernel
theorem dX4_remove_37 : decode cX4_remove 37 = .ok (.iload_n 1, 1) := by decide +kernel
theorem dX4_remove_38 : decode cX4_remove 38 = .ok (.iconst 0, 1) := by decide +kernel
theorem dX4_remove_39 : decode cX4_remove 39 = .ok (.invokestatic 85, 3) := by decide +kernel
theorem dX4_remove_42 : decode cX4_remove 42 = .ok (.istore_n 2, 1) := by decide +kernel
theorem dX4_remove_43 : decode cX4_remove 43 = .ok (.iload_n 2, 1) := by decide +kernel
theorem dX4_remove_44 : decode cX4_remove 44 = .ok (.aload_n 0, 1) := by decide +kernel
theorem dX4_remove_45 : decode cX4_remove 45 = .ok (.bipush 14, 2) := by decide +kernel
theorem dX4_remove_47 : decode cX4_remove 47 = .ok (.invokevirtual 65, 3) := by decide +kernel
theorem dX4_remove_50 : decode cX4_remove 50 = .ok (.iconst 0, 1) := by decide +kernel
theorem dX4_remove_51 : decode cX4_remove 51 = .ok (.invokestatic 85, 3) := by decide +kernel
theorem dX4_remove_54 : decode cX4_remove 54 = .ok (.if_icmp .ge 25, 3) := by decide +kernel
theorem dX4_remove_57 : decode cX4_remove 57 = .ok (.aload_n 0, 1) := by decide +kernel
theorem dX4_remove_58 : decode cX4_remove 58 = .ok (.getfield 7, 3) := by decide +kernel
theorem dX4_remove_61 : decode cX4_remove 61 = .ok (.iload_n 2, 1) := by decide +kernel
theorem dX4_remove_62 : decode cX4_remove 62 = .ok (.aload_n 0, 1) := by decide +kernel
theorem dX4_remove_63 : decode cX4_remove 63 = .ok (.getfield 7, 3) := by decide +kernel
theorem dX4_remove_66 : decode cX4_remove 66 = .ok (.iload_n 2, 1) := by decide +kernel
theorem dX4_remove_67 : decode cX4_remove 67 = .ok (.sipush 150, 3) := by decide +kernel
theorem dX4_remove_70 : decode cX4_remove 70 = .ok (.iadd, 1) := by decide +kernel
theorem dX4_remove_71 : decode cX4_remove 71 = .ok (.laload, 1) := by decide +kernel
theorem dX4_remove_72 : decode cX4_remove 72 = .ok (.lastore, 1) := by decide +kernel
theorem dX4_remove_73 : decode cX4_remove 73 = .ok (.iinc 2 1, 3) := by decide +kernel
theorem dX4_remove_76 : decode cX4_remove 76 = .ok (.goto (-33), 3) := by decide +kernel
theorem dX4_remove_79 : decode cX4_remove 79 = .ok (.iconst 0, 1) := by decide +kernel
theorem dX4_remove_80 : decode cX4_remove 80 = .ok (.istore_n 2, 1) := by decide +kernel
theorem dX4_remove_81 : decode cX4_remove 81 = .ok (.iload_n 2, 1) := by decide +kernel
theorem dX4_remove_82 : decode cX4_remove 82 = .ok (.aload_n 0, 1) := by decide +kernel
theorem dX4_remove_83 : decode cX4_remove 83 = .ok (.bipush 14, 2) := by decide +kernel
theorem dX4_remove_85 : decode cX4_remove 85 = .ok (.invokevirtual 65, 3) := by decide +kernel
end
section
theorem dX4_remove_88 : decode cX4_remove 88 = .ok (.if_icmp .ge 43, 3) := by decide +kernel
theorem dX4_remove_91 : decode cX4_remove 91 = .ok (.aload_n 0, 1) := by decide +kernel
theorem dX4_remove_92 : decode cX4_remove 92 = .ok (.getfield 7, 3) := by decide +kernel
theorem dX4_remove_95 : decode cX4_remove 95 = .ok (.iload_n 2, 1) := by decide +kernel
theorem dX4_remove_96 : decode cX4_remove 96 = .ok (.iconst 1, 1) := by decide +kernel
theorem dX4_remove_97 : decode cX4_remove 97 = .ok (.invokestatic 85, 3) := by decide +kernel
theorem dX4_remove_100 : decode cX4_remove 100 = .ok (.dup2, 1) := by decide +kernel
theorem dX4_remove_101 : decode cX4_remove 101 = .ok (.laload, 1) := by decide +kernel
theorem dX4_remove_102 : decode cX4_remove 102 = .ok (.aload_n 0, 1) := by decide +kernel
theorem dX4_remove_103 : decode cX4_remove 103 = .ok (.getfield 7, 3) := by decide +kernel
theorem dX4_remove_106 : decode cX4_remove 106 = .ok (.iload_n 2, 1) := by decide +kernel
theorem dX4_remove_107 : decode cX4_remove 107 = .ok (.iconst 1, 1) := by decide +kernel
theorem dX4_remove_108 : decode cX4_remove 108 = .ok (.invokestatic 85, 3) := by decide +kernel
theorem dX4_remove_111 : decode cX4_remove 111 = .ok (.laload, 1) := by decide +kernel
theorem dX4_remove_112 : decode cX4_remove 112 = .ok (.iload_n 1, 1) := by decide +kernel
theorem dX4_remove_113 : decode cX4_remove 113 = .ok (.i2l, 1) := by decide +kernel
theorem dX4_remove_114 : decode cX4_remove 114 = .ok (.lcmp, 1) := by decide +kernel
theorem dX4_remove_115 : decode cX4_remove 115 = .ok (.ifCond .le 7, 3) := by decide +kernel
theorem dX4_remove_118 : decode cX4_remove 118 = .ok (.lconst 1, 1) := by decide +kernel
theorem dX4_remove_119 : decode cX4_remove 119 = .ok (.goto 4, 3) := by decide +kernel
theorem dX4_remove_122 : decode cX4_remove 122 = .ok (.lconst 0, 1) := by decide +kernel
theorem dX4_remove_123 : decode cX4_remove 123 = .ok (.lsub, 1) := by decide +kernel
theorem dX4_remove_124 : decode cX4_remove 124 = .ok (.lastore, 1) := by decide +kernel
theorem dX4_remove_125 : decode cX4_remove 125 = .ok (.iinc 2 1, 3) := by decide +kernel
theorem dX4_remove_128 : decode cX4_remove 128 = .ok (.goto (-47), 3) := by decide +kernel
theorem dX4_remove_131 : decode cX4_remove 131 = .ok (.aload_n 0, 1) := by decide +kernel
theorem dX4_remove_132 : decode cX4_remove 132 = .ok (.bipush 14, 2) := by decide +kernel
theorem dX4_remove_134 : decode cX4_remove 134 = .ok (.invokevirtual 65, 3) := by decide +kernel
theorem dX4_remove_137 : decode cX4_remove 137 = .ok (.ireturn, 1) := by decide +kernel
theorem dX4_signOf_0 : decode cX4_signOf 0 = .ok (.aload_n 0, 1) := by decide +kernel
theorem dX4_signOf_1 : decode cX4_signOf 1 = .ok (.getfield 7, 3) := by decide +kernel
theorem dX4_signOf_4 : decode cX4_signOf 4 = .ok (.iconst 4, 1) := by decide +kernel
theorem dX4_signOf_5 : decode cX4_signOf 5 = .ok (.laload, 1) := by decide +kernel
theorem dX4_signOf_6 : decode cX4_signOf 6 = .ok (.lconst 1, 1) := by decide +kernel
theorem dX4_signOf_7 : decode cX4_signOf 7 = .ok (.lcmp, 1) := by decide +kernel
theorem dX4_signOf_8 : decode cX4_signOf 8 = .ok (.ifCond .eq 20, 3) := by decide +kernel
theorem dX4_signOf_11 : decode cX4_signOf 11 = .ok (.aload_n 0, 1) := by decide +kernel
theorem dX4_signOf_12 : decode cX4_signOf 12 = .ok (.getfield 7, 3) := by decide +kernel
theorem dX4_signOf_15 : decode cX4_signOf 15 = .ok (.iconst 4, 1) := by decide +kernel
theorem dX4_signOf_16 : decode cX4_signOf 16 = .ok (.laload, 1) := by decide +kernel
theorem dX4_signOf_17 : decode cX4_signOf 17 = .ok (.ldc2_w 122, 3) := by decide +kernel
theorem dX4_signOf_20 : decode cX4_signOf 20 = .ok (.lcmp, 1) := by decide +kernel
theorem dX4_signOf_21 : decode cX4_signOf 21 = .ok (.ifCond .ne 11, 3) := by decide +kernel
theorem dX4_signOf_24 : decode cX4_signOf 24 = .ok (.iload_n 1, 1) := by decide +kernel
theorem dX4_signOf_25 : decode cX4_signOf 25 = .ok (.ifCond .ne 7, 3) := by decide +kernel
theorem dX4_signOf_28 : decode cX4_signOf 28 = .ok (.iconst (-1), 1) := by decide +kernel
theorem dX4_signOf_29 : decode cX4_signOf 29 = .ok (.goto 4, 3) := by decide +kernel
theorem dX4_signOf_32 : decode cX4_signOf 32 = .ok (.iconst 1, 1) := by decide +kernel
theorem dX4_signOf_33 : decode cX4_signOf 33 = .ok (.ireturn, 1) := by decide +kernel
theorem dX4_aim_0 : decode cX4_aim 0 = .ok (.aload_n 0, 1) := by decide +kernel
theorem dX4_aim_1 : decode cX4_aim 1 = .ok (.getfield 7, 3) := by decide +kernel
theorem dX4_aim_4 : decode cX4_aim 4 = .ok (.iconst 2, 1) := by decide +kernel
theorem dX4_aim_5 : decode cX4_aim 5 = .ok (.iload_n 1, 1) := by decide +kernel
theorem dX4_aim_6 : decode cX4_aim 6 = .ok (.iadd, 1) := by decide +kernel
theorem dX4_aim_7 : decode cX4_aim 7 = .ok (.laload, 1) := by decide +kernel
theorem dX4_aim_8 : decode cX4_aim 8 = .ok (.lstore 6, 2) := by decide +kernel
theorem dX4_aim_10 : decode cX4_aim 10 = .ok (.aload_n 0, 1) := by decide +kernel
theorem dX4_aim_11 : decode cX4_aim 11 = .ok (.lload 6, 2) := by decide +kernel
theorem dX4_aim_13 : decode cX4_aim 13 = .ok (.lload 4, 2) := by decide +kernel
theorem dX4_aim_15 : decode cX4_aim 15 = .ok (.lmul, 1) := by decide +kernel
theorem dX4_aim_16 : decode cX4_aim 16 = .ok (.aload_n 0, 1) := by decide +kernel
theorem dX4_aim_17 : decode cX4_aim 17 = .ok (.getfield 7, 3) := by decide +kernel
theorem dX4_aim_20 : decode cX4_aim 20 = .ok (.iconst 1, 1) := by decide +kernel
theorem dX4_aim_21 : decode cX4_aim 21 = .ok (.laload, 1) := by decide +kernel
theorem dX4_aim_22 : decode cX4_aim 22 = .ok (.lmul, 1) := by decide +kernel
theorem dX4_aim_23 : decode cX4_aim 23 = .ok (.aload_n 0, 1) := by decide +kernel
theorem dX4_aim_24 : decode cX4_aim 24 = .ok (.iload_n 1, 1) := by decide +kernel
theorem dX4_aim_25 : decode cX4_aim 25 = .ok (.invokevirtual 124, 3) := by decide +kernel
theorem dX4_aim_28 : decode cX4_aim 28 = .ok (.i2l, 1) := by decide +kernel
theorem dX4_aim_29 : decode cX4_aim 29 = .ok (.aload_n 0, 1) := by decide +kernel
theorem dX4_aim_30 : decode cX4_aim 30 = .ok (.getfield 7, 3) := by decide +kernel
theorem dX4_aim_33 : decode cX4_aim 33 = .ok (.iconst 0, 1) := by decide +kernel
theorem dX4_aim_34 : decode cX4_aim 34 = .ok (.laload, 1) := by decide +kernel
theorem dX4_aim_35 : decode cX4_aim 35 = .ok (.lmul, 1) := by decide +kernel
theorem dX4_aim_36 : decode cX4_aim 36 = .ok (.lload_n 2, 1) := by decide +kernel
theorem dX4_aim_37 : decode cX4_aim 37 = .ok (.lload 6, 2) := by decide +kernel
theorem dX4_aim_39 : decode cX4_aim 39 = .ok (.lload 4, 2) := by decide +kernel
theorem dX4_aim_41 : decode cX4_aim 41 = .ok (.lmul, 1) := by decide +kernel
theorem dX4_aim_42 : decode cX4_aim 42 = .ok (.lsub, 1) := by decide +kernel
theorem dX4_aim_43 : decode cX4_aim 43 = .ok (.lmul, 1) := by decide +kernel
theorem dX4_aim_44 : decode cX4_aim 44 = .ok (.ladd, 1) := by decide +kernel
theorem dX4_aim_45 : decode cX4_aim 45 = .ok (.lload 4, 2) := by decide +kernel
theorem dX4_aim_47 : decode cX4_aim 47 = .ok (.aload_n 0, 1) := by decide +kernel
theorem dX4_aim_48 : decode cX4_aim 48 = .ok (.getfield 7, 3) := by decide +kernel
theorem dX4_aim_51 : decode cX4_aim 51 = .ok (.iconst 1, 1) := by decide +kernel
theorem dX4_aim_52 : decode cX4_aim 52 = .ok (.laload, 1) := by decide +kernel
theorem dX4_aim_53 : decode cX4_aim 53 = .ok (.lmul, 1) := by decide +kernel
theorem dX4_aim_54 : decode cX4_aim 54 = .ok (.invokevirtual 53, 3) := by decide +kernel
theorem dX4_aim_57 : decode cX4_aim 57 = .ok (.return_, 1) := by decide +kernel
theorem dX4_follow_0 : decode cX4_follow 0 = .ok (.aload_n 0, 1) := by decide +kernel
theorem dX4_follow_1 : decode cX4_follow 1 = .ok (.getfield 46, 3) := by decide +kernel
theorem dX4_follow_4 : decode cX4_follow 4 = .ok (.lstore 5, 2) := by decide +kernel
theorem dX4_follow_6 : decode cX4_follow 6 = .ok (.aload_n 0, 1) := by decide +kernel
theorem dX4_follow_7 : decode cX4_follow 7 = .ok (.getfield 50, 3) := by decide +kernel
theorem dX4_follow_10 : decode cX4_follow 10 = .ok (.lstore 7, 2) := by decide +kernel
theorem dX4_follow_12 : decode cX4_follow 12 = .ok (.aload_n 0, 1) := by decide +kernel
theorem dX4_follow_13 : decode cX4_follow 13 = .ok (.lload 5, 2) := by decide +kernel
theorem dX4_follow_15 : decode cX4_follow 15 = .ok (.lload 7, 2) := by decide +kernel
theorem dX4_follow_17 : decode cX4_follow 17 = .ok (.ldc2_w 96, 3) := by decide +kernel
theorem dX4_follow_20 : decode cX4_follow 20 = .ok (.lload_n 1, 1) := by decide +kernel
theorem dX4_follow_21 : decode cX4_follow 21 = .ok (.lload_n 3, 1) := by decide +kernel
theorem dX4_follow_22 : decode cX4_follow 22 = .ok (.invokevirtual 107, 3) := by decide +kernel
theorem dX4_follow_25 : decode cX4_follow 25 = .ok (.aload_n 0, 1) := by decide +kernel
theorem dX4_follow_26 : decode cX4_follow 26 = .ok (.getfield 46, 3) := by decide +kernel
theorem dX4_follow_29 : decode cX4_follow 29 = .ok (.aload_n 0, 1) := by decide +kernel
theorem dX4_follow_30 : decode cX4_follow 30 = .ok (.getfield 7, 3) := by decide +kernel
theorem dX4_follow_33 : decode cX4_follow 33 = .ok (.iconst 5, 1) := by decide +kernel
theorem dX4_follow_34 : decode cX4_follow 34 = .ok (.laload, 1) := by decide +kernel
theorem dX4_follow_35 : decode cX4_follow 35 = .ok (.aload_n 0, 1) := by decide +kernel
theorem dX4_follow_36 : decode cX4_follow 36 = .ok (.getfield 50, 3) := by decide +kernel
theorem dX4_follow_39 : decode cX4_follow 39 = .ok (.lmul, 1) := by decide +kernel
theorem dX4_follow_40 : decode cX4_follow 40 = .ok (.lcmp, 1) := by decide +kernel
theorem dX4_follow_41 : decode cX4_follow 41 = .ok (.ifCond .le 7, 3) := by decide +kernel
theorem dX4_follow_44 : decode cX4_follow 44 = .ok (.iconst 1, 1) := by decide +kernel
theorem dX4_follow_45 : decode cX4_follow 45 = .ok (.goto 4, 3) := by decide +kernel
theorem dX4_follow_48 : decode cX4_follow 48 = .ok (.iconst 0, 1) := by decide +kernel
theorem dX4_follow_49 : decode cX4_follow 49 = .ok (.istore 9, 2) := by decide +kernel
theorem dX4_follow_51 : decode cX4_follow 51 = .ok (.aload_n 0, 1) := by decide +kernel
theorem dX4_follow_52 : decode cX4_follow 52 = .ok (.getfield 46, 3) := by decide +kernel
theorem dX4_follow_55 : decode cX4_follow 55 = .ok (.lneg, 1) := by decide +kernel
theorem dX4_follow_56 : decode cX4_follow 56 = .ok (.aload_n 0, 1) := by decide +kernel
theorem dX4_follow_57 : decode cX4_follow 57 = .ok (.getfield 7, 3) := by decide +kernel
theorem dX4_follow_60 : decode cX4_follow 60 = .ok (.iconst 5, 1) := by decide +kernel
theorem dX4_follow_61 : decode cX4_follow 61 = .ok (.laload, 1) := by decide +kernel
theorem dX4_follow_62 : decode cX4_follow 62 = .ok (.aload_n 0, 1) := by decide +kernel
theorem dX4_follow_63 : decode cX4_follow 63 = .ok (.getfield 50, 3) := by decide +kernel
theorem dX4_follow_66 : decode cX4_follow 66 = .ok (.lmul, 1) := by decide +kernel
theorem dX4_follow_67 : decode cX4_follow 67 = .ok (.lcmp, 1) := by decide +kernel
theorem dX4_follow_68 : decode cX4_follow 68 = .ok (.ifCond .le 7, 3) := by decide +kernel
theorem dX4_follow_71 : decode cX4_follow 71 = .ok (.iconst 1, 1) := by decide +kernel
theorem dX4_follow_72 : decode cX4_follow 72 = .ok (.goto 4, 3) := by decide +kernel
theorem dX4_follow_75 : decode cX4_follow 75 = .ok (.iconst 0, 1) := by decide +kernel
theorem dX4_follow_76 : decode cX4_follow 76 = .ok (.istore 10, 2) := by decide +kernel
theorem dX4_follow_78 : decode cX4_follow 78 = .ok (.iload 9, 2) := by decide +kernel
theorem dX4_follow_80 : decode cX4_follow 80 = .ok (.ifCond .ne 8, 3) := by decide +kernel
theorem dX4_follow_83 : decode cX4_follow 83 = .ok (.iload 10, 2) := by decide +kernel
theorem dX4_follow_85 : decode cX4_follow 85 = .ok (.ifCond .eq 33, 3) := by decide +kernel
theorem dX4_follow_88 : decode cX4_follow 88 = .ok (.aload_n 0, 1) := by decide +kernel
theorem dX4_follow_89 : decode cX4_follow 89 = .ok (.lload 5, 2) := by decide +kernel
theorem dX4_follow_91 : decode cX4_follow 91 = .ok (.lload 7, 2) := by decide +kernel
theorem dX4_follow_93 : decode cX4_follow 93 = .ok (.iload 9, 2) := by decide +kernel
theorem dX4_follow_95 : decode cX4_follow 95 = .ok (.ifCond .eq 9, 3) := by decide +kernel
theorem dX4_follow_98 : decode cX4_follow 98 = .ok (.ldc2_w 96, 3) := by decide +kernel
theorem dX4_follow_101 : decode cX4_follow 101 = .ok (.goto 4, 3) := by decide +kernel
theorem dX4_follow_104 : decode cX4_follow 104 = .ok (.lconst 1, 1) := by decide +kernel
theorem dX4_follow_105 : decode cX4_follow 105 = .ok (.aload_n 0, 1) := by decide +kernel
theorem dX4_follow_106 : decode cX4_follow 106 = .ok (.getfield 7, 3) := by decide +kernel
theorem dX4_follow_109 : decode cX4_follow 109 = .ok (.iconst 5, 1) := by decide +kernel
theorem dX4_follow_110 : decode cX4_follow 110 = .ok (.laload, 1) := by decide +kernel
theorem dX4_follow_111 : decode cX4_follow 111 = .ok (.lconst 1, 1) := by decide +kernel
theorem dX4_follow_112 : decode cX4_follow 112 = .ok (.invokevirtual 107, 3) := by decide +kernel
theorem dX4_follow_115 : decode cX4_follow 115 = .ok (.goto 9, 3) := by decide +kernel
theorem dX4_follow_118 : decode cX4_follow 118 = .ok (.aload_n 0, 1) := by decide +kernel
theorem dX4_follow_119 : decode cX4_follow 119 = .ok (.lload_n 1, 1) := by decide +kernel
theorem dX4_follow_120 : decode cX4_follow 120 = .ok (.lload_n 3, 1) := by decide +kernel
theorem dX4_follow_121 : decode cX4_follow 121 = .ok (.invokevirtual 53, 3) := by decide +kernel
theorem dX4_follow_124 : decode cX4_follow 124 = .ok (.return_, 1) := by decide +kernel
theorem dX4_trace_0 : decode cX4_trace 0 = .ok (.iload_n 1, 1) := by decide +kernel
theorem dX4_trace_1 : decode cX4_trace 1 = .ok (.iload_n 3, 1) := by decide +kernel
theorem dX4_trace_2 : decode cX4_trace 2 = .ok (.invokestatic 104, 3) := by decide +kernel
theorem dX4_trace_5 : decode cX4_trace 5 = .ok (.istore 4, 2) := by decide +kernel
theorem dX4_trace_7 : decode cX4_trace 7 = .ok (.iload_n 2, 1) := by decide +kernel
theorem dX4_trace_8 : decode cX4_trace 8 = .ok (.iload_n 3, 1) := by decide +kernel
theorem dX4_trace_9 : decode cX4_trace 9 = .ok (.invokestatic 104, 3) := by decide +kernel
theorem dX4_trace_12 : decode cX4_trace 12 = .ok (.istore 5, 2) := by decide +kernel
theorem dX4_trace_14 : decode cX4_trace 14 = .ok (.aload_n 0, 1) := by decide +kernel
theorem dX4_trace_15 : decode cX4_trace 15 = .ok (.getfield 7, 3) := by decide +kernel
theorem dX4_trace_18 : decode cX4_trace 18 = .ok (.iload 4, 2) := by decide +kernel
theorem dX4_trace_20 : decode cX4_trace 20 = .ok (.iconst 4, 1) := by decide +kernel
theorem dX4_trace_21 : decode cX4_trace 21 = .ok (.iadd, 1) := by decide +kernel
theorem dX4_trace_22 : decode cX4_trace 22 = .ok (.laload, 1) := by decide +kernel
theorem dX4_trace_23 : decode cX4_trace 23 = .ok (.lconst 1, 1) := by decide +kernel
theorem dX4_trace_24 : decode cX4_trace 24 = .ok (.lcmp, 1) := by decide +kernel
theorem dX4_trace_25 : decode cX4_trace 25 = .ok (.ifCond .ne 7, 3) := by decide +kernel
theorem dX4_trace_28 : decode cX4_trace 28 = .ok (.iconst 1, 1) := by decide +kernel
theorem dX4_trace_29 : decode cX4_trace 29 = .ok (.goto 4, 3) := by decide +kernel
theorem dX4_trace_32 : decode cX4_trace 32 = .ok (.iconst 0, 1) := by decide +kernel
theorem dX4_trace_33 : decode cX4_trace 33 = .ok (.istore 6, 2) := by decide +kernel
theorem dX4_trace_35 : decode cX4_trace 35 = .ok (.iconst 0, 1) := by decide +kernel
theorem dX4_trace_36 : decode cX4_trace 36 = .ok (.istore 7, 2) := by decide +kernel
theorem dX4_trace_38 : decode cX4_trace 38 = .ok (.iload 7, 2) := by decide +kernel
theorem dX4_trace_40 : decode cX4_trace 40 = .ok (.iconst 2, 1) := by decide +kernel
theorem dX4_trace_41 : decode cX4_trace 41 = .ok (.if_icmp .ge 93, 3) := by decide +kernel
theorem dX4_trace_44 : decode cX4_trace 44 = .ok (.aload_n 0, 1) := by decide +kernel
theorem dX4_trace_45 : decode cX4_trace 45 = .ok (.iload 7, 2) := by decide +kernel
theorem dX4_trace_47 : decode cX4_trace 47 = .ok (.aload_n 0, 1) := by decide +kernel
theorem dX4_trace_48 : decode cX4_trace 48 = .ok (.getfield 7, 3) := by decide +kernel
theorem dX4_trace_51 : decode cX4_trace 51 = .ok (.iload 4, 2) := by decide +kernel
theorem dX4_trace_53 : decode cX4_trace 53 = .ok (.iconst 2, 1) := by decide +kernel
theorem dX4_trace_54 : decode cX4_trace 54 = .ok (.iload 7, 2) := by decide +kernel
theorem dX4_trace_56 : decode cX4_trace 56 = .ok (.imul, 1) := by decide +kernel
theorem dX4_trace_57 : decode cX4_trace 57 = .ok (.iadd, 1) := by decide +kernel
theorem dX4_trace_58 : decode cX4_trace 58 = .ok (.laload, 1) := by decide +kernel
theorem dX4_trace_59 : decode cX4_trace 59 = .ok (.aload_n 0, 1) := by decide +kernel
theorem dX4_trace_60 : decode cX4_trace 60 = .ok (.getfield 7, 3) := by decide +kernel
theorem dX4_trace_63 : decode cX4_trace 63 = .ok (.iload 4, 2) := by decide +kernel
theorem dX4_trace_65 : decode cX4_trace 65 = .ok (.iconst 2, 1) := by decide +kernel
theorem dX4_trace_66 : decode cX4_trace 66 = .ok (.iload 7, 2) := by decide +kernel
theorem dX4_trace_68 : decode cX4_trace 68 = .ok (.imul, 1) := by decide +kernel
theorem dX4_trace_69 : decode cX4_trace 69 = .ok (.iadd, 1) := by decide +kernel
theorem dX4_trace_70 : decode cX4_trace 70 = .ok (.iconst 1, 1) := by decide +kernel
theorem dX4_trace_71 : decode cX4_trace 71 = .ok (.iadd, 1) := by decide +kernel
theorem dX4_trace_72 : decode cX4_trace 72 = .ok (.laload, 1) := by decide +kernel
theorem dX4_trace_73 : decode cX4_trace 73 = .ok (.invokevirtual 127, 3) := by decide +kernel
theorem dX4_trace_76 : decode cX4_trace 76 = .ok (.iload 6, 2) := by decide +kernel
theorem dX4_trace_78 : decode cX4_trace 78 = .ok (.ifCond .eq 39, 3) := by decide +kernel
theorem dX4_trace_81 : decode cX4_trace 81 = .ok (.aload_n 0, 1) := by decide +kernel
theorem dX4_trace_82 : decode cX4_trace 82 = .ok (.aload_n 0, 1) := by decide +kernel
theorem dX4_trace_83 : decode cX4_trace 83 = .ok (.getfield 7, 3) := by decide +kernel
theorem dX4_trace_86 : decode cX4_trace 86 = .ok (.iload 5, 2) := by decide +kernel
theorem dX4_trace_88 : decode cX4_trace 88 = .ok (.bipush 7, 2) := by decide +kernel
theorem dX4_trace_90 : decode cX4_trace 90 = .ok (.isub, 1) := by decide +kernel
theorem dX4_trace_91 : decode cX4_trace 91 = .ok (.iconst 2, 1) := by decide +kernel
theorem dX4_trace_92 : decode cX4_trace 92 = .ok (.iload 7, 2) := by decide +kernel
theorem dX4_trace_94 : decode cX4_trace 94 = .ok (.imul, 1) := by decide +kernel
theorem dX4_trace_95 : decode cX4_trace 95 = .ok (.iadd, 1) := by decide +kernel
theorem dX4_trace_96 : decode cX4_trace 96 = .ok (.laload, 1) := by decide +kernel
theorem dX4_trace_97 : decode cX4_trace 97 = .ok (.aload_n 0, 1) := by decide +kernel
theorem dX4_trace_98 : decode cX4_trace 98 = .ok (.getfield 7, 3) := by decide +kernel
theorem dX4_trace_101 : decode cX4_trace 101 = .ok (.iload 5, 2) := by decide +kernel
theorem dX4_trace_103 : decode cX4_trace 103 = .ok (.bipush 7, 2) := by decide +kernel
theorem dX4_trace_105 : decode cX4_trace 105 = .ok (.isub, 1) := by decide +kernel
theorem dX4_trace_106 : decode cX4_trace 106 = .ok (.iconst 2, 1) := by decide +kernel
theorem dX4_trace_107 : decode cX4_trace 107 = .ok (.iload 7, 2) := by decide +kernel
theorem dX4_trace_109 : decode cX4_trace 109 = .ok (.imul, 1) := by decide +kernel
theorem dX4_trace_110 : decode cX4_trace 110 = .ok (.iadd, 1) := by decide +kernel
theorem dX4_trace_111 : decode cX4_trace 111 = .ok (.iconst 1, 1) := by decide +kernel
theorem dX4_trace_112 : decode cX4_trace 112 = .ok (.iadd, 1) := by decide +kernel
theorem dX4_trace_113 : decode cX4_trace 113 = .ok (.laload, 1) := by decide +kernel
theorem dX4_trace_114 : decode cX4_trace 114 = .ok (.invokevirtual 131, 3) := by decide +kernel
theorem dX4_trace_117 : decode cX4_trace 117 = .ok (.aload_n 0, 1) := by decide +kernel
theorem dX4_trace_118 : decode cX4_trace 118 = .ok (.iload 5, 2) := by decide +kernel
theorem dX4_trace_120 : decode cX4_trace 120 = .ok (.iconst 2, 1) := by decide +kernel
theorem dX4_trace_121 : decode cX4_trace 121 = .ok (.iload 7, 2) := by decide +kernel
theorem dX4_trace_123 : decode cX4_trace 123 = .ok (.imul, 1) := by decide +kernel
theorem dX4_trace_124 : decode cX4_trace 124 = .ok (.iadd, 1) := by decide +kernel
theorem dX4_trace_125 : decode cX4_trace 125 = .ok (.invokevirtual 134, 3) := by decide +kernel
theorem dX4_trace_128 : decode cX4_trace 128 = .ok (.iinc 7 1, 3) := by decide +kernel
theorem dX4_trace_131 : decode cX4_trace 131 = .ok (.goto (-93), 3) := by decide +kernel
theorem dX4_trace_134 : decode cX4_trace 134 = .ok (.aload_n 0, 1) := by decide +kernel
theorem dX4_trace_135 : decode cX4_trace 135 = .ok (.getfield 7, 3) := by decide +kernel
theorem dX4_trace_138 : decode cX4_trace 138 = .ok (.iload 5, 2) := by decide +kernel
theorem dX4_trace_140 : decode cX4_trace 140 = .ok (.iconst 4, 1) := by decide +kernel
theorem dX4_trace_141 : decode cX4_trace 141 = .ok (.iadd, 1) := by decide +kernel
theorem dX4_trace_142 : decode cX4_trace 142 = .ok (.aload_n 0, 1) := by decide +kernel
theorem dX4_trace_143 : decode cX4_trace 143 = .ok (.getfield 7, 3) := by decide +kernel
theorem dX4_trace_146 : decode cX4_trace 146 = .ok (.iload 4, 2) := by decide +kernel
theorem dX4_trace_148 : decode cX4_trace 148 = .ok (.iconst 4, 1) := by decide +kernel
theorem dX4_trace_149 : decode cX4_trace 149 = .ok (.iadd, 1) := by decide +kernel
theorem dX4_trace_150 : decode cX4_trace 150 = .ok (.laload, 1) := by decide +kernel
theorem dX4_trace_151 : decode cX4_trace 151 = .ok (.lastore, 1) := by decide +kernel
theorem dX4_trace_152 : decode cX4_trace 152 = .ok (.return_, 1) := by decide +kernel
theorem dX4_isOnBoard_0 : decode cX4_isOnBoard 0 = .ok (.iload_n 1, 1) := by decide +kernel
theorem dX4_isOnBoard_1 : decode cX4_isOnBoard 1 = .ok (.iload_n 2, 1) := by decide +kernel
theorem dX4_isOnBoard_2 : decode cX4_isOnBoard 2 = .ok (.invokestatic 104, 3) := by decide +kernel
theorem dX4_isOnBoard_5 : decode cX4_isOnBoard 5 = .ok (.istore_n 3, 1) := by decide +kernel
theorem dX4_isOnBoard_6 : decode cX4_isOnBoard 6 = .ok (.aload_n 0, 1) := by decide +kernel
theorem dX4_isOnBoard_7 : decode cX4_isOnBoard 7 = .ok (.getfield 7, 3) := by decide +kernel
theorem dX4_isOnBoard_10 : decode cX4_isOnBoard 10 = .ok (.iload_n 3, 1) := by decide +kernel
theorem dX4_isOnBoard_11 : decode cX4_isOnBoard 11 = .ok (.laload, 1) := by decide +kernel
theorem dX4_isOnBoard_12 : decode cX4_isOnBoard 12 = .ok (.lconst 0, 1) := by decide +kernel
theorem dX4_isOnBoard_13 : decode cX4_isOnBoard 13 = .ok (.lcmp, 1) := by decide +kernel
theorem dX4_isOnBoard_14 : decode cX4_isOnBoard 14 = .ok (.ifCond .lt 33, 3) := by decide +kernel
theorem dX4_isOnBoard_17 : decode cX4_isOnBoard 17 = .ok (.aload_n 0, 1) := by decide +kernel
theorem dX4_isOnBoard_18 : decode cX4_isOnBoard 18 = .ok (.getfield 7, 3) := by decide +kernel
theorem dX4_isOnBoard_21 : decode cX4_isOnBoard 21 = .ok (.iload_n 3, 1) := by decide +kernel
theorem dX4_isOnBoard_22 : decode cX4_isOnBoard 22 = .ok (.laload, 1) := by decide +kernel
theorem dX4_isOnBoard_23 : decode cX4_isOnBoard 23 = .ok (.aload_n 0, 1) := by decide +kernel
theorem dX4_isOnBoard_24 : decode cX4_isOnBoard 24 = .ok (.getfield 7, 3) := by decide +kernel
theorem dX4_isOnBoard_27 : decode cX4_isOnBoard 27 = .ok (.bipush 6, 2) := by decide +kernel
theorem dX4_isOnBoard_29 : decode cX4_isOnBoard 29 = .ok (.laload, 1) := by decide +kernel
theorem dX4_isOnBoard_30 : decode cX4_isOnBoard 30 = .ok (.aload_n 0, 1) := by decide +kernel
theorem dX4_isOnBoard_31 : decode cX4_isOnBoard 31 = .ok (.getfield 7, 3) := by decide +kernel
theorem dX4_isOnBoard_34 : decode cX4_isOnBoard 34 = .ok (.iload_n 3, 1) := by decide +kernel
theorem dX4_isOnBoard_35 : decode cX4_isOnBoard 35 = .ok (.iconst 1, 1) := by decide +kernel
theorem dX4_isOnBoard_36 : decode cX4_isOnBoard 36 = .ok (.iadd, 1) := by decide +kernel
theorem dX4_isOnBoard_37 : decode cX4_isOnBoard 37 = .ok (.laload, 1) := by decide +kernel
theorem dX4_isOnBoard_38 : decode cX4_isOnBoard 38 = .ok (.lmul, 1) := by decide +kernel
theorem dX4_isOnBoard_39 : decode cX4_isOnBoard 39 = .ok (.lcmp, 1) := by decide +kernel
theorem dX4_isOnBoard_40 : decode cX4_isOnBoard 40 = .ok (.ifCond .gt 7, 3) := by decide +kernel
theorem dX4_isOnBoard_43 : decode cX4_isOnBoard 43 = .ok (.iconst 1, 1) := by decide +kernel
theorem dX4_isOnBoard_44 : decode cX4_isOnBoard 44 = .ok (.goto 4, 3) := by decide +kernel
theorem dX4_isOnBoard_47 : decode cX4_isOnBoard 47 = .ok (.iconst 0, 1) := by decide +kernel
theorem dX4_isOnBoard_48 : decode cX4_isOnBoard 48 = .ok (.istore 4, 2) := by decide +kernel
theorem dX4_isOnBoard_50 : decode cX4_isOnBoard 50 = .ok (.iload 4, 2) := by decide +kernel
theorem dX4_isOnBoard_52 : decode cX4_isOnBoard 52 = .ok (.ifCond .eq 48, 3) := by decide +kernel
theorem dX4_isOnBoard_55 : decode cX4_isOnBoard 55 = .ok (.aload_n 0, 1) := by decide +kernel
theorem dX4_isOnBoard_56 : decode cX4_isOnBoard 56 = .ok (.getfield 7, 3) := by decide +kernel
theorem dX4_isOnBoard_59 : decode cX4_isOnBoard 59 = .ok (.iload_n 3, 1) := by decide +kernel
theorem dX4_isOnBoard_60 : decode cX4_isOnBoard 60 = .ok (.iconst 2, 1) := by decide +kernel
theorem dX4_isOnBoard_61 : decode cX4_isOnBoard 61 = .ok (.iadd, 1) := by decide +kernel
theorem dX4_isOnBoard_62 : decode cX4_isOnBoard 62 = .ok (.laload, 1) := by decide +kernel
theorem dX4_isOnBoard_63 : decode cX4_isOnBoard 63 = .ok (.lconst 0, 1) := by decide +kernel
theorem dX4_isOnBoard_64 : decode cX4_isOnBoard 64 = .ok (.lcmp, 1) := by decide +kernel
theorem dX4_isOnBoard_65 : decode cX4_isOnBoard 65 = .ok (.ifCond .lt 35, 3) := by decide +kernel
theorem dX4_isOnBoard_68 : decode cX4_isOnBoard 68 = .ok (.aload_n 0, 1) := by decide +kernel
theorem dX4_isOnBoard_69 : decode cX4_isOnBoard 69 = .ok (.getfield 7, 3) := by decide +kernel
theorem dX4_isOnBoard_72 : decode cX4_isOnBoard 72 = .ok (.iload_n 3, 1) := by decide +kernel
theorem dX4_isOnBoard_73 : decode cX4_isOnBoard 73 = .ok (.iconst 2, 1) := by decide +kernel
theorem dX4_isOnBoard_74 : decode cX4_isOnBoard 74 = .ok (.iadd, 1) := by decide +kernel
theorem dX4_isOnBoard_75 : decode cX4_isOnBoard 75 = .ok (.laload, 1) := by decide +kernel
theorem dX4_isOnBoard_76 : decode cX4_isOnBoard 76 = .ok (.aload_n 0, 1) := by decide +kernel
theorem dX4_isOnBoard_77 : decode cX4_isOnBoard 77 = .ok (.getfield 7, 3) := by decide +kernel
theorem dX4_isOnBoard_80 : decode cX4_isOnBoard 80 = .ok (.bipush 7, 2) := by decide +kernel
theorem dX4_isOnBoard_82 : decode cX4_isOnBoard 82 = .ok (.laload, 1) := by decide +kernel
theorem dX4_isOnBoard_83 : decode cX4_isOnBoard 83 = .ok (.aload_n 0, 1) := by decide +kernel
theorem dX4_isOnBoard_84 : decode cX4_isOnBoard 84 = .ok (.getfield 7, 3) := by decide +kernel
theorem dX4_isOnBoard_87 : decode cX4_isOnBoard 87 = .ok (.iload_n 3, 1) := by decide +kernel
theorem dX4_isOnBoard_88 : decode cX4_isOnBoard 88 = .ok (.iconst 3, 1) := by decide +kernel
theorem dX4_isOnBoard_89 : decode cX4_isOnBoard 89 = .ok (.iadd, 1) := by decide +kernel
theorem dX4_isOnBoard_90 : decode cX4_isOnBoard 90 = .ok (.laload, 1) := by decide +kernel
theorem dX4_isOnBoard_91 : decode cX4_isOnBoard 91 = .ok (.lmul, 1) := by decide +kernel
theorem dX4_isOnBoard_92 : decode cX4_isOnBoard 92 = .ok (.lcmp, 1) := by decide +kernel
theorem dX4_isOnBoard_93 : decode cX4_isOnBoard 93 = .ok (.ifCond .gt 7, 3) := by decide +kernel
theorem dX4_isOnBoard_96 : decode cX4_isOnBoard 96 = .ok (.iconst 1, 1) := by decide +kernel
theorem dX4_isOnBoard_97 : decode cX4_isOnBoard 97 = .ok (.goto 4, 3) := by decide +kernel
theorem dX4_isOnBoard_100 : decode cX4_isOnBoard 100 = .ok (.iconst 0, 1) := by decide +kernel
theorem dX4_isOnBoard_101 : decode cX4_isOnBoard 101 = .ok (.ireturn, 1) := by decide +kernel
theorem dX4_line_0 : decode cX4_line 0 = .ok (.iload_n 1, 1) := by decide +kernel
theorem dX4_line_1 : decode cX4_line 1 = .ok (.iload_n 2, 1) := by decide +kernel
theorem dX4_line_2 : decode cX4_line 2 = .ok (.invokestatic 104, 3) := by decide +kernel
theorem dX4_line_5 : decode cX4_line 5 = .ok (.istore_n 3, 1) := by decide +kernel
theorem dX4_line_6 : decode cX4_line 6 = .ok (.aload_n 0, 1) := by decide +kernel
theorem dX4_line_7 : decode cX4_line 7 = .ok (.iload_n 1, 1) := by decide +kernel
theorem dX4_line_8 : decode cX4_line 8 = .ok (.iload_n 2, 1) := by decide +kernel
theorem dX4_line_9 : decode cX4_line 9 = .ok (.invokevirtual 138, 3) := by decide +kernel
theorem dX4_line_12 : decode cX4_line 12 = .ok (.ifCond .eq 14, 3) := by decide +kernel
theorem dX4_line_15 : decode cX4_line 15 = .ok (.aload_n 0, 1) := by decide +kernel
theorem dX4_line_16 : decode cX4_line 16 = .ok (.iload_n 1, 1) := by decide +kernel
theorem dX4_line_17 : decode cX4_line 17 = .ok (.iload_n 2, 1) := by decide +kernel
theorem dX4_line_18 : decode cX4_line 18 = .ok (.iconst 1, 1) := by decide +kernel
theorem dX4_line_19 : decode cX4_line 19 = .ok (.isub, 1) := by decide +kernel
theorem dX4_line_20 : decode cX4_line 20 = .ok (.invokevirtual 138, 3) := by decide +kernel
theorem dX4_line_23 : decode cX4_line 23 = .ok (.ifCond .ne 15, 3) := by decide +kernel
theorem dX4_line_26 : decode cX4_line 26 = .ok (.aload_n 0, 1) := by decide +kernel
theorem dX4_line_27 : decode cX4_line 27 = .ok (.getfield 7, 3) := by decide +kernel
theorem dX4_line_30 : decode cX4_line 30 = .ok (.bipush 13, 2) := by decide +kernel
theorem dX4_line_32 : decode cX4_line 32 = .ok (.dup2, 1) := by decide +kernel
theorem dX4_line_33 : decode cX4_line 33 = .ok (.laload, 1) := by decide +kernel
theorem dX4_line_34 : decode cX4_line 34 = .ok (.lconst 1, 1) := by decide +kernel
theorem dX4_line_35 : decode cX4_line 35 = .ok (.ladd, 1) := by decide +kernel
theorem dX4_line_36 : decode cX4_line 36 = .ok (.lastore, 1) := by decide +kernel
theorem dX4_line_37 : decode cX4_line 37 = .ok (.return_, 1) := by decide +kernel
theorem dX4_line_38 : decode cX4_line 38 = .ok (.lconst 1, 1) := by decide +kernel
theorem dX4_line_39 : decode cX4_line 39 = .ok (.aload_n 0, 1) := by decide +kernel
theorem dX4_line_40 : decode cX4_line 40 = .ok (.getfield 7, 3) := by decide +kernel
theorem dX4_line_43 : decode cX4_line 43 = .ok (.bipush 9, 2) := by decide +kernel
theorem dX4_line_45 : decode cX4_line 45 = .ok (.laload, 1) := by decide +kernel
theorem dX4_line_46 : decode cX4_line 46 = .ok (.aload_n 0, 1) := by decide +kernel
theorem dX4_line_47 : decode cX4_line 47 = .ok (.getfield 7, 3) := by decide +kernel
theorem dX4_line_50 : decode cX4_line 50 = .ok (.bipush 8, 2) := by decide +kernel
theorem dX4_line_52 : decode cX4_line 52 = .ok (.laload, 1) := by decide +kernel
theorem dX4_line_53 : decode cX4_line 53 = .ok (.ldiv, 1) := by decide +kernel
theorem dX4_line_54 : decode cX4_line 54 = .ok (.ladd, 1) := by decide +kernel
theorem dX4_line_55 : decode cX4_line 55 = .ok (.lstore 4, 2) := by decide +kernel
theorem dX4_line_57 : decode cX4_line 57 = .ok (.aload_n 0, 1) := by decide +kernel
theorem dX4_line_58 : decode cX4_line 58 = .ok (.getfield 7, 3) := by decide +kernel
theorem dX4_line_61 : decode cX4_line 61 = .ok (.iload_n 3, 1) := by decide +kernel
theorem dX4_line_62 : decode cX4_line 62 = .ok (.iconst 5, 1) := by decide +kernel
theorem dX4_line_63 : decode cX4_line 63 = .ok (.iadd, 1) := by decide +kernel
theorem dX4_line_64 : decode cX4_line 64 = .ok (.lload 4, 2) := by decide +kernel
theorem dX4_line_66 : decode cX4_line 66 = .ok (.ldc2_w 73, 3) := by decide +kernel
theorem dX4_line_69 : decode cX4_line 69 = .ok (.lcmp, 1) := by decide +kernel
theorem dX4_line_70 : decode cX4_line 70 = .ok (.ifCond .le 9, 3) := by decide +kernel
theorem dX4_line_73 : decode cX4_line 73 = .ok (.ldc2_w 73, 3) := by decide +kernel
theorem dX4_line_76 : decode cX4_line 76 = .ok (.goto 5, 3) := by decide +kernel
theorem dX4_line_79 : decode cX4_line 79 = .ok (.lload 4, 2) := by decide +kernel
theorem dX4_line_81 : decode cX4_line 81 = .ok (.lastore, 1) := by decide +kernel
theorem dX4_line_82 : decode cX4_line 82 = .ok (.aload_n 0, 1) := by decide +kernel
theorem dX4_line_83 : decode cX4_line 83 = .ok (.getfield 7, 3) := by decide +kernel
theorem dX4_line_86 : decode cX4_line 86 = .ok (.iload_n 3, 1) := by decide +kernel
theorem dX4_line_87 : decode cX4_line 87 = .ok (.bipush 6, 2) := by decide +kernel
theorem dX4_line_89 : decode cX4_line 89 = .ok (.iadd, 1) := by decide +kernel
theorem dX4_line_90 : decode cX4_line 90 = .ok (.aload_n 0, 1) := by decide +kernel
theorem dX4_line_91 : decode cX4_line 91 = .ok (.iload_n 1, 1) := by decide +kernel
theorem dX4_line_92 : decode cX4_line 92 = .ok (.iload_n 2, 1) := by decide +kernel
theorem dX4_line_93 : decode cX4_line 93 = .ok (.invokevirtual 111, 3) := by decide +kernel
theorem dX4_line_96 : decode cX4_line 96 = .ok (.i2l, 1) := by decide +kernel
theorem dX4_line_97 : decode cX4_line 97 = .ok (.lastore, 1) := by decide +kernel
theorem dX4_line_98 : decode cX4_line 98 = .ok (.aload_n 0, 1) := by decide +kernel
theorem dX4_line_99 : decode cX4_line 99 = .ok (.getfield 7, 3) := by decide +kernel
theorem dX4_line_102 : decode cX4_line 102 = .ok (.bipush 9, 2) := by decide +kernel
theorem dX4_line_104 : decode cX4_line 104 = .ok (.dup2, 1) := by decide +kernel
theorem dX4_line_105 : decode cX4_line 105 = .ok (.laload, 1) := by decide +kernel
theorem dX4_line_106 : decode cX4_line 106 = .ok (.aload_n 0, 1) := by decide +kernel
theorem dX4_line_107 : decode cX4_line 107 = .ok (.getfield 7, 3) := by decide +kernel
theorem dX4_line_110 : decode cX4_line 110 = .ok (.iload_n 3, 1) := by decide +kernel
theorem dX4_line_111 : decode cX4_line 111 = .ok (.bipush 6, 2) := by decide +kernel
theorem dX4_line_113 : decode cX4_line 113 = .ok (.iadd, 1) := by decide +kernel
theorem dX4_line_114 : decode cX4_line 114 = .ok (.laload, 1) := by decide +kernel
theorem dX4_line_115 : decode cX4_line 115 = .ok (.ladd, 1) := by decide +kernel
theorem dX4_line_116 : decode cX4_line 116 = .ok (.lastore, 1) := by decide +kernel
theorem dX4_line_117 : decode cX4_line 117 = .ok (.aload_n 0, 1) := by decide +kernel
theorem dX4_line_118 : decode cX4_line 118 = .ok (.getfield 7, 3) := by decide +kernel
theorem dX4_line_121 : decode cX4_line 121 = .ok (.bipush 11, 2) := by decide +kernel
theorem dX4_line_123 : decode cX4_line 123 = .ok (.dup2, 1) := by decide +kernel
theorem dX4_line_124 : decode cX4_line 124 = .ok (.laload, 1) := by decide +kernel
theorem dX4_line_125 : decode cX4_line 125 = .ok (.lconst 1, 1) := by decide +kernel
theorem dX4_line_126 : decode cX4_line 126 = .ok (.ladd, 1) := by decide +kernel
theorem dX4_line_127 : decode cX4_line 127 = .ok (.lastore, 1) := by decide +kernel
theorem dX4_line_128 : decode cX4_line 128 = .ok (.aload_n 0, 1) := by decide +kernel
theorem dX4_line_129 : decode cX4_line 129 = .ok (.getfield 7, 3) := by decide +kernel
theorem dX4_line_132 : decode cX4_line 132 = .ok (.bipush 12, 2) := by decide +kernel
theorem dX4_line_134 : decode cX4_line 134 = .ok (.dup2, 1) := by decide +kernel
theorem dX4_line_135 : decode cX4_line 135 = .ok (.laload, 1) := by decide +kernel
theorem dX4_line_136 : decode cX4_line 136 = .ok (.aload_n 0, 1) := by decide +kernel
theorem dX4_line_137 : decode cX4_line 137 = .ok (.getfield 7, 3) := by decide +kernel
theorem dX4_line_140 : decode cX4_line 140 = .ok (.iload_n 3, 1) := by decide +kernel
theorem dX4_line_141 : decode cX4_line 141 = .ok (.bipush 6, 2) := by decide +kernel
theorem dX4_line_143 : decode cX4_line 143 = .ok (.iadd, 1) := by decide +kernel
theorem dX4_line_144 : decode cX4_line 144 = .ok (.laload, 1) := by decide +kernel
theorem dX4_line_145 : decode cX4_line 145 = .ok (.ladd, 1) := by decide +kernel
theorem dX4_line_146 : decode cX4_line 146 = .ok (.lastore, 1) := by decide +kernel
theorem dX4_line_147 : decode cX4_line 147 = .ok (.return_, 1) := by decide +kernel
theorem dX4_shift_0 : decode cX4_shift 0 = .ok (.iload_n 1, 1) := by decide +kernel
theorem dX4_shift_1 : decode cX4_shift 1 = .ok (.bipush 6, 2) := by decide +kernel
theorem dX4_shift_3 : decode cX4_shift 3 = .ok (.iconst 2, 1) := by decide +kernel
theorem dX4_shift_4 : decode cX4_shift 4 = .ok (.iload_n 3, 1) := by decide +kernel
theorem dX4_shift_5 : decode cX4_shift 5 = .ok (.imul, 1) := by decide +kernel
theorem dX4_shift_6 : decode cX4_shift 6 = .ok (.iadd, 1) := by decide +kernel
theorem dX4_shift_7 : decode cX4_shift 7 = .ok (.invokestatic 85, 3) := by decide +kernel
theorem dX4_shift_10 : decode cX4_shift 10 = .ok (.istore 4, 2) := by decide +kernel
theorem dX4_shift_12 : decode cX4_shift 12 = .ok (.aload_n 0, 1) := by decide +kernel
theorem dX4_shift_13 : decode cX4_shift 13 = .ok (.iload_n 3, 1) := by decide +kernel
theorem dX4_shift_14 : decode cX4_shift 14 = .ok (.aload_n 0, 1) := by decide +kernel
theorem dX4_shift_15 : decode cX4_shift 15 = .ok (.getfield 7, 3) := by decide +kernel
theorem dX4_shift_18 : decode cX4_shift 18 = .ok (.iload 4, 2) := by decide +kernel
theorem dX4_shift_20 : decode cX4_shift 20 = .ok (.laload, 1) := by decide +kernel
theorem dX4_shift_21 : decode cX4_shift 21 = .ok (.aload_n 0, 1) := by decide +kernel
theorem dX4_shift_22 : decode cX4_shift 22 = .ok (.getfield 7, 3) := by decide +kernel
theorem dX4_shift_25 : decode cX4_shift 25 = .ok (.iload 4, 2) := by decide +kernel
theorem dX4_shift_27 : decode cX4_shift 27 = .ok (.iconst 1, 1) := by decide +kernel
theorem dX4_shift_28 : decode cX4_shift 28 = .ok (.iadd, 1) := by decide +kernel
theorem dX4_shift_29 : decode cX4_shift 29 = .ok (.laload, 1) := by decide +kernel
theorem dX4_shift_30 : decode cX4_shift 30 = .ok (.invokevirtual 127, 3) := by decide +kernel
theorem dX4_shift_33 : decode cX4_shift 33 = .ok (.aload_n 0, 1) := by decide +kernel
theorem dX4_shift_34 : decode cX4_shift 34 = .ok (.iload_n 2, 1) := by decide +kernel
theorem dX4_shift_35 : decode cX4_shift 35 = .ok (.bipush 6, 2) := by decide +kernel
theorem dX4_shift_37 : decode cX4_shift 37 = .ok (.iconst 2, 1) := by decide +kernel
theorem dX4_shift_38 : decode cX4_shift 38 = .ok (.iload_n 3, 1) := by decide +kernel
theorem dX4_shift_39 : decode cX4_shift 39 = .ok (.imul, 1) := by decide +kernel
theorem dX4_shift_40 : decode cX4_shift 40 = .ok (.iadd, 1) := by decide +kernel
theorem dX4_shift_41 : decode cX4_shift 41 = .ok (.invokestatic 85, 3) := by decide +kernel
theorem dX4_shift_44 : decode cX4_shift 44 = .ok (.invokevirtual 134, 3) := by decide +kernel
theorem dX4_shift_47 : decode cX4_shift 47 = .ok (.return_, 1) := by decide +kernel
theorem dX4_copies_0 : decode cX4_copies 0 = .ok (.aload_n 0, 1) := by decide +kernel
theorem dX4_copies_1 : decode cX4_copies 1 = .ok (.invokevirtual 100, 3) := by decide +kernel
theorem dX4_copies_4 : decode cX4_copies 4 = .ok (.istore_n 2, 1) := by decide +kernel
theorem dX4_copies_5 : decode cX4_copies 5 = .ok (.aload_n 0, 1) := by decide +kernel
theorem dX4_copies_6 : decode cX4_copies 6 = .ok (.getfield 7, 3) := by decide +kernel
theorem dX4_copies_9 : decode cX4_copies 9 = .ok (.iload_n 2, 1) := by decide +kernel
theorem dX4_copies_10 : decode cX4_copies 10 = .ok (.iconst 1, 1) := by decide +kernel
theorem dX4_copies_11 : decode cX4_copies 11 = .ok (.invokestatic 85, 3) := by decide +kernel
theorem dX4_copies_14 : decode cX4_copies 14 = .ok (.iload_n 1, 1) := by decide +kernel
theorem dX4_copies_15 : decode cX4_copies 15 = .ok (.i2l, 1) := by decide +kernel
theorem dX4_copies_16 : decode cX4_copies 16 = .ok (.lastore, 1) := by decide +kernel
theorem dX4_copies_17 : decode cX4_copies 17 = .ok (.aload_n 0, 1) := by decide +kernel
theorem dX4_copies_18 : decode cX4_copies 18 = .ok (.aload_n 0, 1) := by decide +kernel
theorem dX4_copies_19 : decode cX4_copies 19 = .ok (.getfield 7, 3) := by decide +kernel
theorem dX4_copies_22 : decode cX4_copies 22 = .ok (.iload_n 1, 1) := by decide +kernel
theorem dX4_copies_23 : decode cX4_copies 23 = .ok (.iconst 2, 1) := by decide +kernel
theorem dX4_copies_24 : decode cX4_copies 24 = .ok (.invokestatic 85, 3) := by decide +kernel
theorem dX4_copies_27 : decode cX4_copies 27 = .ok (.laload, 1) := by decide +kernel
theorem dX4_copies_28 : decode cX4_copies 28 = .ok (.aload_n 0, 1) := by decide +kernel
theorem dX4_copies_29 : decode cX4_copies 29 = .ok (.getfield 7, 3) := by decide +kernel
theorem dX4_copies_32 : decode cX4_copies 32 = .ok (.iconst 0, 1) := by decide +kernel
theorem dX4_copies_33 : decode cX4_copies 33 = .ok (.laload, 1) := by decide +kernel
theorem dX4_copies_34 : decode cX4_copies 34 = .ok (.lmul, 1) := by decide +kernel
theorem dX4_copies_35 : decode cX4_copies 35 = .ok (.aload_n 0, 1) := by decide +kernel
theorem dX4_copies_36 : decode cX4_copies 36 = .ok (.getfield 7, 3) := by decide +kernel
theorem dX4_copies_39 : decode cX4_copies 39 = .ok (.iload_n 1, 1) := by decide +kernel
theorem dX4_copies_40 : decode cX4_copies 40 = .ok (.iconst 3, 1) := by decide +kernel
theorem dX4_copies_41 : decode cX4_copies 41 = .ok (.invokestatic 85, 3) := by decide +kernel
theorem dX4_copies_44 : decode cX4_copies 44 = .ok (.laload, 1) := by decide +kernel
theorem dX4_copies_45 : decode cX4_copies 45 = .ok (.aload_n 0, 1) := by decide +kernel
theorem dX4_copies_46 : decode cX4_copies 46 = .ok (.getfield 7, 3) := by decide +kernel
theorem dX4_copies_49 : decode cX4_copies 49 = .ok (.iconst 1, 1) := by decide +kernel
theorem dX4_copies_50 : decode cX4_copies 50 = .ok (.laload, 1) := by decide +kernel
theorem dX4_copies_51 : decode cX4_copies 51 = .ok (.lmul, 1) := by decide +kernel
theorem dX4_copies_52 : decode cX4_copies 52 = .ok (.invokevirtual 53, 3) := by decide +kernel
theorem dX4_copies_55 : decode cX4_copies 55 = .ok (.aload_n 0, 1) := by decide +kernel
theorem dX4_copies_56 : decode cX4_copies 56 = .ok (.iload_n 2, 1) := by decide +kernel
theorem dX4_copies_57 : decode cX4_copies 57 = .ok (.iconst 2, 1) := by decide +kernel
theorem dX4_copies_58 : decode cX4_copies 58 = .ok (.invokestatic 85, 3) := by decide +kernel
theorem dX4_copies_61 : decode cX4_copies 61 = .ok (.invokevirtual 134, 3) := by decide +kernel
theorem dX4_copies_64 : decode cX4_copies 64 = .ok (.aload_n 0, 1) := by decide +kernel
theorem dX4_copies_65 : decode cX4_copies 65 = .ok (.getfield 46, 3) := by decide +kernel
theorem dX4_copies_68 : decode cX4_copies 68 = .ok (.ldc2_w 141, 3) := by decide +kernel
theorem dX4_copies_71 : decode cX4_copies 71 = .ok (.lcmp, 1) := by decide +kernel
theorem dX4_copies_72 : decode cX4_copies 72 = .ok (.ifCond .gt 18, 3) := by decide +kernel
theorem dX4_copies_75 : decode cX4_copies 75 = .ok (.aload_n 0, 1) := by decide +kernel
theorem dX4_copies_76 : decode cX4_copies 76 = .ok (.getfield 50, 3) := by decide +kernel
theorem dX4_copies_79 : decode cX4_copies 79 = .ok (.ldc2_w 141, 3) := by decide +kernel
theorem dX4_copies_82 : decode cX4_copies 82 = .ok (.lcmp, 1) := by decide +kernel
theorem dX4_copies_83 : decode cX4_copies 83 = .ok (.ifCond .gt 7, 3) := by decide +kernel
theorem dX4_copies_86 : decode cX4_copies 86 = .ok (.iconst 1, 1) := by decide +kernel
theorem dX4_copies_87 : decode cX4_copies 87 = .ok (.goto 4, 3) := by decide +kernel
theorem dX4_copies_90 : decode cX4_copies 90 = .ok (.iconst 0, 1) := by decide +kernel
theorem dX4_copies_91 : decode cX4_copies 91 = .ok (.istore_n 3, 1) := by decide +kernel
theorem dX4_copies_92 : decode cX4_copies 92 = .ok (.iconst 0, 1) := by decide +kernel
theorem dX4_copies_93 : decode cX4_copies 93 = .ok (.istore 4, 2) := by decide +kernel
theorem dX4_copies_95 : decode cX4_copies 95 = .ok (.iload 4, 2) := by decide +kernel
theorem dX4_copies_97 : decode cX4_copies 97 = .ok (.iconst 2, 1) := by decide +kernel
theorem dX4_copies_98 : decode cX4_copies 98 = .ok (.if_icmp .ge 51, 3) := by decide +kernel
theorem dX4_copies_101 : decode cX4_copies 101 = .ok (.aload_n 0, 1) := by decide +kernel
theorem dX4_copies_102 : decode cX4_copies 102 = .ok (.getfield 7, 3) := by decide +kernel
theorem dX4_copies_105 : decode cX4_copies 105 = .ok (.iload_n 2, 1) := by decide +kernel
theorem dX4_copies_106 : decode cX4_copies 106 = .ok (.iconst 4, 1) := by decide +kernel
theorem dX4_copies_107 : decode cX4_copies 107 = .ok (.iload 4, 2) := by decide +kernel
theorem dX4_copies_109 : decode cX4_copies 109 = .ok (.iadd, 1) := by decide +kernel
theorem dX4_copies_110 : decode cX4_copies 110 = .ok (.invokestatic 85, 3) := by decide +kernel
theorem dX4_copies_113 : decode cX4_copies 113 = .ok (.aload_n 0, 1) := by decide +kernel
theorem dX4_copies_114 : decode cX4_copies 114 = .ok (.getfield 7, 3) := by decide +kernel
theorem dX4_copies_117 : decode cX4_copies 117 = .ok (.iload_n 1, 1) := by decide +kernel
theorem dX4_copies_118 : decode cX4_copies 118 = .ok (.iconst 4, 1) := by decide +kernel
theorem dX4_copies_119 : decode cX4_copies 119 = .ok (.iload 4, 2) := by decide +kernel
theorem dX4_copies_121 : decode cX4_copies 121 = .ok (.iadd, 1) := by decide +kernel
theorem dX4_copies_122 : decode cX4_copies 122 = .ok (.invokestatic 85, 3) := by decide +kernel
theorem dX4_copies_125 : decode cX4_copies 125 = .ok (.laload, 1) := by decide +kernel
theorem dX4_copies_126 : decode cX4_copies 126 = .ok (.aload_n 0, 1) := by decide +kernel
theorem dX4_copies_127 : decode cX4_copies 127 = .ok (.iload 4, 2) := by decide +kernel
theorem dX4_copies_129 : decode cX4_copies 129 = .ok (.invokevirtual 124, 3) := by decide +kernel
theorem dX4_copies_132 : decode cX4_copies 132 = .ok (.i2l, 1) := by decide +kernel
theorem dX4_copies_133 : decode cX4_copies 133 = .ok (.lmul, 1) := by decide +kernel
theorem dX4_copies_134 : decode cX4_copies 134 = .ok (.lastore, 1) := by decide +kernel
theorem dX4_copies_135 : decode cX4_copies 135 = .ok (.aload_n 0, 1) := by decide +kernel
theorem dX4_copies_136 : decode cX4_copies 136 = .ok (.iload_n 1, 1) := by decide +kernel
theorem dX4_copies_137 : decode cX4_copies 137 = .ok (.iload_n 2, 1) := by decide +kernel
theorem dX4_copies_138 : decode cX4_copies 138 = .ok (.iload 4, 2) := by decide +kernel
theorem dX4_copies_140 : decode cX4_copies 140 = .ok (.invokevirtual 143, 3) := by decide +kernel
theorem dX4_copies_143 : decode cX4_copies 143 = .ok (.iinc 4 1, 3) := by decide +kernel
theorem dX4_copies_146 : decode cX4_copies 146 = .ok (.goto (-51), 3) := by decide +kernel
theorem dX4_copies_149 : decode cX4_copies 149 = .ok (.iconst 0, 1) := by decide +kernel
theorem dX4_copies_150 : decode cX4_copies 150 = .ok (.istore 4, 2) := by decide +kernel
theorem dX4_copies_152 : decode cX4_copies 152 = .ok (.iload 4, 2) := by decide +kernel
theorem dX4_copies_154 : decode cX4_copies 154 = .ok (.aload_n 0, 1) := by decide +kernel
theorem dX4_copies_155 : decode cX4_copies 155 = .ok (.iload_n 1, 1) := by decide +kernel
theorem dX4_copies_156 : decode cX4_copies 156 = .ok (.invokevirtual 93, 3) := by decide +kernel
theorem dX4_copies_159 : decode cX4_copies 159 = .ok (.if_icmp .ge 67, 3) := by decide +kernel
theorem dX4_copies_162 : decode cX4_copies 162 = .ok (.aload_n 0, 1) := by decide +kernel
theorem dX4_copies_163 : decode cX4_copies 163 = .ok (.iload_n 1, 1) := by decide +kernel
theorem dX4_copies_164 : decode cX4_copies 164 = .ok (.iload_n 2, 1) := by decide +kernel
theorem dX4_copies_165 : decode cX4_copies 165 = .ok (.iload 4, 2) := by decide +kernel
theorem dX4_copies_167 : decode cX4_copies 167 = .ok (.invokevirtual 147, 3) := by decide +kernel
theorem dX4_copies_170 : decode cX4_copies 170 = .ok (.iload_n 2, 1) := by decide +kernel
theorem dX4_copies_171 : decode cX4_copies 171 = .ok (.iload 4, 2) := by decide +kernel
theorem dX4_copies_173 : decode cX4_copies 173 = .ok (.invokestatic 104, 3) := by decide +kernel
theorem dX4_copies_176 : decode cX4_copies 176 = .ok (.istore 5, 2) := by decide +kernel
theorem dX4_copies_178 : decode cX4_copies 178 = .ok (.iload_n 3, 1) := by decide +kernel
theorem dX4_copies_179 : decode cX4_copies 179 = .ok (.ifCond .eq 39, 3) := by decide +kernel
theorem dX4_copies_182 : decode cX4_copies 182 = .ok (.aload_n 0, 1) := by decide +kernel
theorem dX4_copies_183 : decode cX4_copies 183 = .ok (.getfield 7, 3) := by decide +kernel
theorem dX4_copies_186 : decode cX4_copies 186 = .ok (.iload 5, 2) := by decide +kernel
theorem dX4_copies_188 : decode cX4_copies 188 = .ok (.iconst 1, 1) := by decide +kernel
theorem dX4_copies_189 : decode cX4_copies 189 = .ok (.iadd, 1) := by decide +kernel
theorem dX4_copies_190 : decode cX4_copies 190 = .ok (.laload, 1) := by decide +kernel
theorem dX4_copies_191 : decode cX4_copies 191 = .ok (.ldc2_w 141, 3) := by decide +kernel
theorem dX4_copies_194 : decode cX4_copies 194 = .ok (.lcmp, 1) := by decide +kernel
theorem dX4_copies_195 : decode cX4_copies 195 = .ok (.ifCond .gt 23, 3) := by decide +kernel
theorem dX4_copies_198 : decode cX4_copies 198 = .ok (.aload_n 0, 1) := by decide +kernel
theorem dX4_copies_199 : decode cX4_copies 199 = .ok (.getfield 7, 3) := by decide +kernel
theorem dX4_copies_202 : decode cX4_copies 202 = .ok (.iload 5, 2) := by decide +kernel
theorem dX4_copies_204 : decode cX4_copies 204 = .ok (.iconst 3, 1) := by decide +kernel
theorem dX4_copies_205 : decode cX4_copies 205 = .ok (.iadd, 1) := by decide +kernel
theorem dX4_copies_206 : decode cX4_copies 206 = .ok (.laload, 1) := by decide +kernel
theorem dX4_copies_207 : decode cX4_copies 207 = .ok (.ldc2_w 141, 3) := by decide +kernel
theorem dX4_copies_210 : decode cX4_copies 210 = .ok (.lcmp, 1) := by decide +kernel
theorem dX4_copies_211 : decode cX4_copies 211 = .ok (.ifCond .gt 7, 3) := by decide +kernel
theorem dX4_copies_214 : decode cX4_copies 214 = .ok (.iconst 1, 1) := by decide +kernel
theorem dX4_copies_215 : decode cX4_copies 215 = .ok (.goto 4, 3) := by decide +kernel
theorem dX4_copies_218 : decode cX4_copies 218 = .ok (.iconst 0, 1) := by decide +kernel
theorem dX4_copies_219 : decode cX4_copies 219 = .ok (.istore_n 3, 1) := by decide +kernel
theorem dX4_copies_220 : decode cX4_copies 220 = .ok (.iinc 4 1, 3) := by decide +kernel
theorem dX4_copies_223 : decode cX4_copies 223 = .ok (.goto (-71), 3) := by decide +kernel
theorem dX4_copies_226 : decode cX4_copies 226 = .ok (.aload_n 0, 1) := by decide +kernel
theorem dX4_copies_227 : decode cX4_copies 227 = .ok (.getfield 7, 3) := by decide +kernel
theorem dX4_copies_230 : decode cX4_copies 230 = .ok (.iload_n 2, 1) := by decide +kernel
theorem dX4_copies_231 : decode cX4_copies 231 = .ok (.iconst 0, 1) := by decide +kernel
theorem dX4_copies_232 : decode cX4_copies 232 = .ok (.invokestatic 85, 3) := by decide +kernel
theorem dX4_copies_235 : decode cX4_copies 235 = .ok (.aload_n 0, 1) := by decide +kernel
theorem dX4_copies_236 : decode cX4_copies 236 = .ok (.iload_n 1, 1) := by decide +kernel
theorem dX4_copies_237 : decode cX4_copies 237 = .ok (.invokevirtual 93, 3) := by decide +kernel
theorem dX4_copies_240 : decode cX4_copies 240 = .ok (.i2l, 1) := by decide +kernel
theorem dX4_copies_241 : decode cX4_copies 241 = .ok (.lastore, 1) := by decide +kernel
theorem dX4_copies_242 : decode cX4_copies 242 = .ok (.iload_n 3, 1) := by decide +kernel
theorem dX4_copies_243 : decode cX4_copies 243 = .ok (.ireturn, 1) := by decide +kernel
theorem dX4_reason_0 : decode cX4_reason 0 = .ok (.aload_n 0, 1) := by decide +kernel
theorem dX4_reason_1 : decode cX4_reason 1 = .ok (.iload_n 1, 1) := by decide +kernel
theorem dX4_reason_2 : decode cX4_reason 2 = .ok (.invokevirtual 93, 3) := by decide +kernel
theorem dX4_reason_5 : decode cX4_reason 5 = .ok (.ifCond .ne 5, 3) := by decide +kernel
theorem dX4_reason_8 : decode cX4_reason 8 = .ok (.iconst 1, 1) := by decide +kernel
theorem dX4_reason_9 : decode cX4_reason 9 = .ok (.ireturn, 1) := by decide +kernel
theorem dX4_reason_10 : decode cX4_reason 10 = .ok (.aload_n 0, 1) := by decide +kernel
theorem dX4_reason_11 : decode cX4_reason 11 = .ok (.invokevirtual 75, 3) := by decide +kernel
theorem dX4_reason_14 : decode cX4_reason 14 = .ok (.ifCond .eq 5, 3) := by decide +kernel
theorem dX4_reason_17 : decode cX4_reason 17 = .ok (.iconst 2, 1) := by decide +kernel
theorem dX4_reason_18 : decode cX4_reason 18 = .ok (.ireturn, 1) := by decide +kernel
theorem dX4_reason_19 : decode cX4_reason 19 = .ok (.aload_n 0, 1) := by decide +kernel
theorem dX4_reason_20 : decode cX4_reason 20 = .ok (.getfield 7, 3) := by decide +kernel
theorem dX4_reason_23 : decode cX4_reason 23 = .ok (.bipush 14, 2) := by decide +kernel
theorem dX4_reason_25 : decode cX4_reason 25 = .ok (.laload, 1) := by decide +kernel
theorem dX4_reason_26 : decode cX4_reason 26 = .ok (.ldc2_w 98, 3) := by decide +kernel
theorem dX4_reason_29 : decode cX4_reason 29 = .ok (.lcmp, 1) := by decide +kernel
theorem dX4_reason_30 : decode cX4_reason 30 = .ok (.ifCond .ne 5, 3) := by decide +kernel
theorem dX4_reason_33 : decode cX4_reason 33 = .ok (.iconst 3, 1) := by decide +kernel
theorem dX4_reason_34 : decode cX4_reason 34 = .ok (.ireturn, 1) := by decide +kernel
theorem dX4_reason_35 : decode cX4_reason 35 = .ok (.aload_n 0, 1) := by decide +kernel
theorem dX4_reason_36 : decode cX4_reason 36 = .ok (.getfield 7, 3) := by decide +kernel
theorem dX4_reason_39 : decode cX4_reason 39 = .ok (.iconst 0, 1) := by decide +kernel
theorem dX4_reason_40 : decode cX4_reason 40 = .ok (.aload_n 0, 1) := by decide +kernel
theorem dX4_reason_41 : decode cX4_reason 41 = .ok (.getfield 13, 3) := by decide +kernel
theorem dX4_reason_44 : decode cX4_reason 44 = .ok (.iconst 0, 1) := by decide +kernel
theorem dX4_reason_45 : decode cX4_reason 45 = .ok (.invokestatic 38, 3) := by decide +kernel
theorem dX4_reason_48 : decode cX4_reason 48 = .ok (.aload_n 0, 1) := by decide +kernel
theorem dX4_reason_49 : decode cX4_reason 49 = .ok (.iload_n 1, 1) := by decide +kernel
theorem dX4_reason_50 : decode cX4_reason 50 = .ok (.invokevirtual 150, 3) := by decide +kernel
theorem dX4_reason_53 : decode cX4_reason 53 = .ok (.istore_n 2, 1) := by decide +kernel
theorem dX4_reason_54 : decode cX4_reason 54 = .ok (.aload_n 0, 1) := by decide +kernel
theorem dX4_reason_55 : decode cX4_reason 55 = .ok (.getfield 13, 3) := by decide +kernel
theorem dX4_reason_58 : decode cX4_reason 58 = .ok (.iconst 0, 1) := by decide +kernel
theorem dX4_reason_59 : decode cX4_reason 59 = .ok (.aload_n 0, 1) := by decide +kernel
theorem dX4_reason_60 : decode cX4_reason 60 = .ok (.getfield 7, 3) := by decide +kernel
theorem dX4_reason_63 : decode cX4_reason 63 = .ok (.iconst 0, 1) := by decide +kernel
theorem dX4_reason_64 : decode cX4_reason 64 = .ok (.invokestatic 38, 3) := by decide +kernel
theorem dX4_reason_67 : decode cX4_reason 67 = .ok (.iload_n 2, 1) := by decide +kernel
theorem dX4_reason_68 : decode cX4_reason 68 = .ok (.ifCond .eq 7, 3) := by decide +kernel
theorem dX4_reason_71 : decode cX4_reason 71 = .ok (.iconst 0, 1) := by decide +kernel
theorem dX4_reason_72 : decode cX4_reason 72 = .ok (.goto 4, 3) := by decide +kernel
theorem dX4_reason_75 : decode cX4_reason 75 = .ok (.iconst 4, 1) := by decide +kernel
theorem dX4_reason_76 : decode cX4_reason 76 = .ok (.ireturn, 1) := by decide +kernel
theorem dX4_why_0 : decode cX4_why 0 = .ok (.aload_n 0, 1) := by decide +kernel
theorem dX4_why_1 : decode cX4_why 1 = .ok (.iload_n 1, 1) := by decide +kernel
theorem dX4_why_2 : decode cX4_why 2 = .ok (.invokevirtual 89, 3) := by decide +kernel
theorem dX4_why_5 : decode cX4_why 5 = .ok (.ifCond .eq 11, 3) := by decide +kernel
theorem dX4_why_8 : decode cX4_why 8 = .ok (.aload_n 0, 1) := by decide +kernel
theorem dX4_why_9 : decode cX4_why 9 = .ok (.iload_n 1, 1) := by decide +kernel
theorem dX4_why_10 : decode cX4_why 10 = .ok (.invokevirtual 153, 3) := by decide +kernel
theorem dX4_why_13 : decode cX4_why 13 = .ok (.goto 5, 3) := by decide +kernel
theorem dX4_why_16 : decode cX4_why 16 = .ok (.ldc 61, 2) := by decide +kernel
theorem dX4_why_18 : decode cX4_why 18 = .ok (.ireturn, 1) := by decide +kernel
theorem dX4_copy_0 : decode cX4_copy 0 = .ok (.aload_n 0, 1) := by decide +kernel
theorem dX4_copy_1 : decode cX4_copy 1 = .ok (.iload_n 1, 1) := by decide +kernel
theorem dX4_copy_2 : decode cX4_copy 2 = .ok (.invokevirtual 89, 3) := by decide +kernel
theorem dX4_copy_5 : decode cX4_copy 5 = .ok (.ifCond .ne 6, 3) := by decide +kernel
theorem dX4_copy_8 : decode cX4_copy 8 = .ok (.ldc 61, 2) := by decide +kernel
theorem dX4_copy_10 : decode cX4_copy 10 = .ok (.ireturn, 1) := by decide +kernel
theorem dX4_copy_11 : decode cX4_copy 11 = .ok (.aload_n 0, 1) := by decide +kernel
theorem dX4_copy_12 : decode cX4_copy 12 = .ok (.iload_n 1, 1) := by decide +kernel
theorem dX4_copy_13 : decode cX4_copy 13 = .ok (.invokevirtual 153, 3) := by decide +kernel
theorem dX4_copy_16 : decode cX4_copy 16 = .ok (.ifCond .eq 6, 3) := by decide +kernel
theorem dX4_copy_19 : decode cX4_copy 19 = .ok (.ldc 117, 2) := by decide +kernel
theorem dX4_copy_21 : decode cX4_copy 21 = .ok (.ireturn, 1) := by decide +kernel
theorem dX4_copy_22 : decode cX4_copy 22 = .ok (.aload_n 0, 1) := by decide +kernel
theorem dX4_copy_23 : decode cX4_copy 23 = .ok (.invokevirtual 62, 3) := by decide +kernel
theorem dX4_copy_26 : decode cX4_copy 26 = .ok (.aload_n 0, 1) := by decide +kernel
theorem dX4_copy_27 : decode cX4_copy 27 = .ok (.iload_n 1, 1) := by decide +kernel
theorem dX4_copy_28 : decode cX4_copy 28 = .ok (.invokevirtual 150, 3) := by decide +kernel
theorem dX4_copy_31 : decode cX4_copy 31 = .ok (.istore_n 2, 1) := by decide +kernel
theorem dX4_copy_32 : decode cX4_copy 32 = .ok (.aload_n 0, 1) := by decide +kernel
theorem dX4_copy_33 : decode cX4_copy 33 = .ok (.bipush 14, 2) := by decide +kernel
theorem dX4_copy_35 : decode cX4_copy 35 = .ok (.invokevirtual 65, 3) := by decide +kernel
theorem dX4_copy_38 : decode cX4_copy 38 = .ok (.iconst 1, 1) := by decide +kernel
theorem dX4_copy_39 : decode cX4_copy 39 = .ok (.isub, 1) := by decide +kernel
theorem dX4_copy_40 : decode cX4_copy 40 = .ok (.istore_n 3, 1) := by decide +kernel
theorem dX4_copy_41 : decode cX4_copy 41 = .ok (.iconst 0, 1) := by decide +kernel
theorem dX4_copy_42 : decode cX4_copy 42 = .ok (.istore 4, 2) := by decide +kernel
theorem dX4_copy_44 : decode cX4_copy 44 = .ok (.iload 4, 2) := by decide +kernel
theorem dX4_copy_46 : decode cX4_copy 46 = .ok (.aload_n 0, 1) := by decide +kernel
theorem dX4_copy_47 : decode cX4_copy 47 = .ok (.iload_n 3, 1) := by decide +kernel
theorem dX4_copy_48 : decode cX4_copy 48 = .ok (.invokevirtual 93, 3) := by decide +kernel
theorem dX4_copy_51 : decode cX4_copy 51 = .ok (.if_icmp .ge 34, 3) := by decide +kernel
theorem dX4_copy_54 : decode cX4_copy 54 = .ok (.aload_n 0, 1) := by decide +kernel
theorem dX4_copy_55 : decode cX4_copy 55 = .ok (.getfield 7, 3) := by decide +kernel
theorem dX4_copy_58 : decode cX4_copy 58 = .ok (.iload_n 3, 1) := by decide +kernel
theorem dX4_copy_59 : decode cX4_copy 59 = .ok (.iload 4, 2) := by decide +kernel
theorem dX4_copy_61 : decode cX4_copy 61 = .ok (.invokestatic 104, 3) := by decide +kernel
theorem dX4_copy_64 : decode cX4_copy 64 = .ok (.iconst 4, 1) := by decide +kernel
theorem dX4_copy_65 : decode cX4_copy 65 = .ok (.iadd, 1) := by decide +kernel
theorem dX4_copy_66 : decode cX4_copy 66 = .ok (.laload, 1) := by decide +kernel
theorem dX4_copy_67 : decode cX4_copy 67 = .ok (.lconst 1, 1) := by decide +kernel
theorem dX4_copy_68 : decode cX4_copy 68 = .ok (.lcmp, 1) := by decide +kernel
theorem dX4_copy_69 : decode cX4_copy 69 = .ok (.ifCond .ne 10, 3) := by decide +kernel
theorem dX4_copy_72 : decode cX4_copy 72 = .ok (.aload_n 0, 1) := by decide +kernel
theorem dX4_copy_73 : decode cX4_copy 73 = .ok (.iload_n 3, 1) := by decide +kernel
theorem dX4_copy_74 : decode cX4_copy 74 = .ok (.iload 4, 2) := by decide +kernel
theorem dX4_copy_76 : decode cX4_copy 76 = .ok (.invokevirtual 156, 3) := by decide +kernel
theorem dX4_copy_79 : decode cX4_copy 79 = .ok (.iinc 4 1, 3) := by decide +kernel
theorem dX4_copy_82 : decode cX4_copy 82 = .ok (.goto (-38), 3) := by decide +kernel
theorem dX4_copy_85 : decode cX4_copy 85 = .ok (.iload_n 3, 1) := by decide +kernel
theorem dX4_copy_86 : decode cX4_copy 86 = .ok (.ireturn, 1) := by decide +kernel
theorem dX4_root_0 : decode cX4_root 0 = .ok (.iload_n 1, 1) := by decide +kernel
theorem dX4_root_1 : decode cX4_root 1 = .ok (.istore_n 2, 1) := by decide +kernel
theorem dX4_root_2 : decode cX4_root 2 = .ok (.aload_n 0, 1) := by decide +kernel
theorem dX4_root_3 : decode cX4_root 3 = .ok (.iload_n 2, 1) := by decide +kernel
theorem dX4_root_4 : decode cX4_root 4 = .ok (.iconst 1, 1) := by decide +kernel
theorem dX4_root_5 : decode cX4_root 5 = .ok (.invokestatic 85, 3) := by decide +kernel
theorem dX4_root_8 : decode cX4_root 8 = .ok (.invokevirtual 65, 3) := by decide +kernel
theorem dX4_root_11 : decode cX4_root 11 = .ok (.iconst (-1), 1) := by decide +kernel
theorem dX4_root_12 : decode cX4_root 12 = .ok (.if_icmp .eq 16, 3) := by decide +kernel
theorem dX4_root_15 : decode cX4_root 15 = .ok (.aload_n 0, 1) := by decide +kernel
theorem dX4_root_16 : decode cX4_root 16 = .ok (.iload_n 2, 1) := by decide +kernel
theorem dX4_root_17 : decode cX4_root 17 = .ok (.iconst 1, 1) := by decide +kernel
theorem dX4_root_18 : decode cX4_root 18 = .ok (.invokestatic 85, 3) := by decide +kernel
theorem dX4_root_21 : decode cX4_root 21 = .ok (.invokevirtual 65, 3) := by decide +kernel
theorem dX4_root_24 : decode cX4_root 24 = .ok (.istore_n 2, 1) := by decide +kernel
theorem dX4_root_25 : decode cX4_root 25 = .ok (.goto (-23), 3) := by decide +kernel
theorem dX4_root_28 : decode cX4_root 28 = .ok (.iload_n 2, 1) := by decide +kernel
theorem dX4_root_29 : decode cX4_root 29 = .ok (.ireturn, 1) := by decide +kernel
theorem dX4_steps_0 : decode cX4_steps 0 = .ok (.iconst 0, 1) := by decide +kernel
theorem dX4_steps_1 : decode cX4_steps 1 = .ok (.istore_n 2, 1) := by decide +kernel
theorem dX4_steps_2 : decode cX4_steps 2 = .ok (.iload_n 1, 1) := by decide +kernel
theorem dX4_steps_3 : decode cX4_steps 3 = .ok (.istore_n 3, 1) := by decide +kernel
theorem dX4_steps_4 : decode cX4_steps 4 = .ok (.aload_n 0, 1) := by decide +kernel
theorem dX4_steps_5 : decode cX4_steps 5 = .ok (.iload_n 3, 1) := by decide +kernel
theorem dX4_steps_6 : decode cX4_steps 6 = .ok (.iconst 1, 1) := by decide +kernel
theorem dX4_steps_7 : decode cX4_steps 7 = .ok (.invokestatic 85, 3) := by decide +kernel
theorem dX4_steps_10 : decode cX4_steps 10 = .ok (.invokevirtual 65, 3) := by decide +kernel
theorem dX4_steps_13 : decode cX4_steps 13 = .ok (.iconst (-1), 1) := by decide +kernel
theorem dX4_steps_14 : decode cX4_steps 14 = .ok (.if_icmp .eq 19, 3) := by decide +kernel
theorem dX4_steps_17 : decode cX4_steps 17 = .ok (.aload_n 0, 1) := by decide +kernel
theorem dX4_steps_18 : decode cX4_steps 18 = .ok (.iload_n 3, 1) := by decide +kernel
theorem dX4_steps_19 : decode cX4_steps 19 = .ok (.iconst 1, 1) := by decide +kernel
theorem dX4_steps_20 : decode cX4_steps 20 = .ok (.invokestatic 85, 3) := by decide +kernel
theorem dX4_steps_23 : decode cX4_steps 23 = .ok (.invokevirtual 65, 3) := by decide +kernel
theorem dX4_steps_26 : decode cX4_steps 26 = .ok (.istore_n 3, 1) := by decide +kernel
theorem dX4_steps_27 : decode cX4_steps 27 = .ok (.iinc 2 1, 3) := by decide +kernel
theorem dX4_steps_30 : decode cX4_steps 30 = .ok (.goto (-26), 3) := by decide +kernel
theorem dX4_steps_33 : decode cX4_steps 33 = .ok (.iload_n 2, 1) := by decide +kernel
theorem dX4_steps_34 : decode cX4_steps 34 = .ok (.ireturn, 1) := by decide +kernel
theorem dX4_lines_0 : decode cX4_lines 0 = .ok (.iconst 0, 1) := by decide +kernel
theorem dX4_lines_1 : decode cX4_lines 1 = .ok (.istore_n 3, 1) := by decide +kernel
theorem dX4_lines_2 : decode cX4_lines 2 = .ok (.iconst 0, 1) := by decide +kernel
theorem dX4_lines_3 : decode cX4_lines 3 = .ok (.istore 4, 2) := by decide +kernel
theorem dX4_lines_5 : decode cX4_lines 5 = .ok (.iconst 0, 1) := by decide +kernel
theorem dX4_lines_6 : decode cX4_lines 6 = .ok (.istore 5, 2) := by decide +kernel
theorem dX4_lines_8 : decode cX4_lines 8 = .ok (.iconst 0, 1) := by decide +kernel
theorem dX4_lines_9 : decode cX4_lines 9 = .ok (.istore 6, 2) := by decide +kernel
theorem dX4_lines_11 : decode cX4_lines 11 = .ok (.iload 6, 2) := by decide +kernel
theorem dX4_lines_13 : decode cX4_lines 13 = .ok (.aload_n 0, 1) := by decide +kernel
theorem dX4_lines_14 : decode cX4_lines 14 = .ok (.iload_n 1, 1) := by decide +kernel
theorem dX4_lines_15 : decode cX4_lines 15 = .ok (.invokevirtual 93, 3) := by decide +kernel
theorem dX4_lines_18 : decode cX4_lines 18 = .ok (.if_icmp .ge 70, 3) := by decide +kernel
theorem dX4_lines_21 : decode cX4_lines 21 = .ok (.aload_n 0, 1) := by decide +kernel
theorem dX4_lines_22 : decode cX4_lines 22 = .ok (.iload_n 1, 1) := by decide +kernel
theorem dX4_lines_23 : decode cX4_lines 23 = .ok (.iload 6, 2) := by decide +kernel
theorem dX4_lines_25 : decode cX4_lines 25 = .ok (.invokestatic 104, 3) := by decide +kernel
theorem dX4_lines_28 : decode cX4_lines 28 = .ok (.iconst 5, 1) := by decide +kernel
theorem dX4_lines_29 : decode cX4_lines 29 = .ok (.iadd, 1) := by decide +kernel
theorem dX4_lines_30 : decode cX4_lines 30 = .ok (.invokevirtual 65, 3) := by decide +kernel
theorem dX4_lines_33 : decode cX4_lines 33 = .ok (.istore 7, 2) := by decide +kernel
theorem dX4_lines_35 : decode cX4_lines 35 = .ok (.iload_n 3, 1) := by decide +kernel
theorem dX4_lines_36 : decode cX4_lines 36 = .ok (.iload 7, 2) := by decide +kernel
theorem dX4_lines_38 : decode cX4_lines 38 = .ok (.ifCond .le 7, 3) := by decide +kernel
theorem dX4_lines_41 : decode cX4_lines 41 = .ok (.iconst 1, 1) := by decide +kernel
theorem dX4_lines_42 : decode cX4_lines 42 = .ok (.goto 4, 3) := by decide +kernel
theorem dX4_lines_45 : decode cX4_lines 45 = .ok (.iconst 0, 1) := by decide +kernel
theorem dX4_lines_46 : decode cX4_lines 46 = .ok (.iadd, 1) := by decide +kernel
theorem dX4_lines_47 : decode cX4_lines 47 = .ok (.istore_n 3, 1) := by decide +kernel
theorem dX4_lines_48 : decode cX4_lines 48 = .ok (.iload 4, 2) := by decide +kernel
theorem dX4_lines_50 : decode cX4_lines 50 = .ok (.aload_n 0, 1) := by decide +kernel
theorem dX4_lines_51 : decode cX4_lines 51 = .ok (.iload_n 1, 1) := by decide +kernel
theorem dX4_lines_52 : decode cX4_lines 52 = .ok (.iload 6, 2) := by decide +kernel
theorem dX4_lines_54 : decode cX4_lines 54 = .ok (.invokestatic 104, 3) := by decide +kernel
theorem dX4_lines_57 : decode cX4_lines 57 = .ok (.bipush 6, 2) := by decide +kernel
theorem dX4_lines_59 : decode cX4_lines 59 = .ok (.iadd, 1) := by decide +kernel
theorem dX4_lines_60 : decode cX4_lines 60 = .ok (.invokevirtual 65, 3) := by decide +kernel
theorem dX4_lines_63 : decode cX4_lines 63 = .ok (.iadd, 1) := by decide +kernel
theorem dX4_lines_64 : decode cX4_lines 64 = .ok (.istore 4, 2) := by decide +kernel
theorem dX4_lines_66 : decode cX4_lines 66 = .ok (.iload 7, 2) := by decide +kernel
theorem dX4_lines_68 : decode cX4_lines 68 = .ok (.iload 5, 2) := by decide +kernel
theorem dX4_lines_70 : decode cX4_lines 70 = .ok (.if_icmp .le 8, 3) := by decide +kernel
theorem dX4_lines_73 : decode cX4_lines 73 = .ok (.iload 7, 2) := by decide +kernel
theorem dX4_lines_75 : decode cX4_lines 75 = .ok (.goto 5, 3) := by decide +kernel
theorem dX4_lines_78 : decode cX4_lines 78 = .ok (.iload 5, 2) := by decide +kernel
theorem dX4_lines_80 : decode cX4_lines 80 = .ok (.istore 5, 2) := by decide +kernel
theorem dX4_lines_82 : decode cX4_lines 82 = .ok (.iinc 6 1, 3) := by decide +kernel
theorem dX4_lines_85 : decode cX4_lines 85 = .ok (.goto (-74), 3) := by decide +kernel
theorem dX4_lines_88 : decode cX4_lines 88 = .ok (.iload_n 2, 1) := by decide +kernel
theorem dX4_lines_89 : decode cX4_lines 89 = .ok (.bipush 6, 2) := by decide +kernel
theorem dX4_lines_91 : decode cX4_lines 91 = .ok (.if_icmp .ne 7, 3) := by decide +kernel
theorem dX4_lines_94 : decode cX4_lines 94 = .ok (.iload_n 3, 1) := by decide +kernel
theorem dX4_lines_95 : decode cX4_lines 95 = .ok (.goto 16, 3) := by decide +kernel
theorem dX4_lines_98 : decode cX4_lines 98 = .ok (.iload_n 2, 1) := by decide +kernel
theorem dX4_lines_99 : decode cX4_lines 99 = .ok (.bipush 7, 2) := by decide +kernel
theorem dX4_lines_101 : decode cX4_lines 101 = .ok (.if_icmp .ne 8, 3) := by decide +kernel
theorem dX4_lines_104 : decode cX4_lines 104 = .ok (.iload 4, 2) := by decide +kernel
theorem dX4_lines_106 : decode cX4_lines 106 = .ok (.goto 5, 3) := by decide +kernel
theorem dX4_lines_109 : decode cX4_lines 109 = .ok (.iload 5, 2) := by decide +kernel
theorem dX4_lines_111 : decode cX4_lines 111 = .ok (.ireturn, 1) := by decide +kernel
theorem dX4_offBoard_0 : decode cX4_offBoard 0 = .ok (.iconst 0, 1) := by decide +kernel
theorem dX4_offBoard_1 : decode cX4_offBoard 1 = .ok (.istore_n 2, 1) := by decide +kernel
theorem dX4_offBoard_2 : decode cX4_offBoard 2 = .ok (.iconst 0, 1) := by decide +kernel
theorem dX4_offBoard_3 : decode cX4_offBoard 3 = .ok (.istore_n 3, 1) := by decide +kernel
theorem dX4_offBoard_4 : decode cX4_offBoard 4 = .ok (.iload_n 3, 1) := by decide +kernel
theorem dX4_offBoard_5 : decode cX4_offBoard 5 = .ok (.aload_n 0, 1) := by decide +kernel
theorem dX4_offBoard_6 : decode cX4_offBoard 6 = .ok (.iload_n 1, 1) := by decide +kernel
theorem dX4_offBoard_7 : decode cX4_offBoard 7 = .ok (.invokevirtual 93, 3) := by decide +kernel
theorem dX4_offBoard_10 : decode cX4_offBoard 10 = .ok (.if_icmp .ge 26, 3) := by decide +kernel
theorem dX4_offBoard_13 : decode cX4_offBoard 13 = .ok (.iload_n 2, 1) := by decide +kernel
theorem dX4_offBoard_14 : decode cX4_offBoard 14 = .ok (.aload_n 0, 1) := by decide +kernel
theorem dX4_offBoard_15 : decode cX4_offBoard 15 = .ok (.iload_n 1, 1) := by decide +kernel
theorem dX4_offBoard_16 : decode cX4_offBoard 16 = .ok (.iload_n 3, 1) := by decide +kernel
theorem dX4_offBoard_17 : decode cX4_offBoard 17 = .ok (.invokevirtual 138, 3) := by decide +kernel
theorem dX4_offBoard_20 : decode cX4_offBoard 20 = .ok (.ifCond .eq 7, 3) := by decide +kernel
theorem dX4_offBoard_23 : decode cX4_offBoard 23 = .ok (.iconst 0, 1) := by decide +kernel
theorem dX4_offBoard_24 : decode cX4_offBoard 24 = .ok (.goto 4, 3) := by decide +kernel
theorem dX4_offBoard_27 : decode cX4_offBoard 27 = .ok (.iconst 1, 1) := by decide +kernel
theorem dX4_offBoard_28 : decode cX4_offBoard 28 = .ok (.iadd, 1) := by decide +kernel
theorem dX4_offBoard_29 : decode cX4_offBoard 29 = .ok (.istore_n 2, 1) := by decide +kernel
theorem dX4_offBoard_30 : decode cX4_offBoard 30 = .ok (.iinc 3 1, 3) := by decide +kernel
theorem dX4_offBoard_33 : decode cX4_offBoard 33 = .ok (.goto (-29), 3) := by decide +kernel
theorem dX4_offBoard_36 : decode cX4_offBoard 36 = .ok (.iload_n 2, 1) := by decide +kernel
theorem dX4_offBoard_37 : decode cX4_offBoard 37 = .ok (.ireturn, 1) := by decide +kernel
theorem dX4_ratioOf_0 : decode cX4_ratioOf 0 = .ok (.aload_n 0, 1) := by decide +kernel
theorem dX4_ratioOf_1 : decode cX4_ratioOf 1 = .ok (.getfield 7, 3) := by decide +kernel
theorem dX4_ratioOf_4 : decode cX4_ratioOf 4 = .ok (.iload_n 1, 1) := by decide +kernel
theorem dX4_ratioOf_5 : decode cX4_ratioOf 5 = .ok (.iconst 2, 1) := by decide +kernel
theorem dX4_ratioOf_6 : decode cX4_ratioOf 6 = .ok (.invokestatic 85, 3) := by decide +kernel
theorem dX4_ratioOf_9 : decode cX4_ratioOf 9 = .ok (.laload, 1) := by decide +kernel
theorem dX4_ratioOf_10 : decode cX4_ratioOf 10 = .ok (.l2f, 1) := by decide +kernel
theorem dX4_ratioOf_11 : decode cX4_ratioOf 11 = .ok (.aload_n 0, 1) := by decide +kernel
theorem dX4_ratioOf_12 : decode cX4_ratioOf 12 = .ok (.getfield 7, 3) := by decide +kernel
theorem dX4_ratioOf_15 : decode cX4_ratioOf 15 = .ok (.iload_n 1, 1) := by decide +kernel
theorem dX4_ratioOf_16 : decode cX4_ratioOf 16 = .ok (.iconst 3, 1) := by decide +kernel
theorem dX4_ratioOf_17 : decode cX4_ratioOf 17 = .ok (.invokestatic 85, 3) := by decide +kernel
theorem dX4_ratioOf_20 : decode cX4_ratioOf 20 = .ok (.laload, 1) := by decide +kernel
theorem dX4_ratioOf_21 : decode cX4_ratioOf 21 = .ok (.l2f, 1) := by decide +kernel
theorem dX4_ratioOf_22 : decode cX4_ratioOf 22 = .ok (.fdiv, 1) := by decide +kernel
theorem dX4_ratioOf_23 : decode cX4_ratioOf 23 = .ok (.freturn, 1) := by decide +kernel
theorem dX4_drawingOf_0 : decode cX4_drawingOf 0 = .ok (.iload_n 2, 1) := by decide +kernel
theorem dX4_drawingOf_1 : decode cX4_drawingOf 1 = .ok (.tableswitch 148 0 11 #[63, 69, 97, 103, 109, 109, 148, 148, 148, 123, 129, 138], 63) := by decide +kernel
theorem dX4_drawingOf_64 : decode cX4_drawingOf 64 = .ok (.aload_n 0, 1) := by decide +kernel
theorem dX4_drawingOf_65 : decode cX4_drawingOf 65 = .ok (.iload_n 1, 1) := by decide +kernel
theorem dX4_drawingOf_66 : decode cX4_drawingOf 66 = .ok (.invokevirtual 93, 3) := by decide +kernel
theorem dX4_drawingOf_69 : decode cX4_drawingOf 69 = .ok (.ireturn, 1) := by decide +kernel
theorem dX4_drawingOf_70 : decode cX4_drawingOf 70 = .ok (.aload_n 0, 1) := by decide +kernel
theorem dX4_drawingOf_71 : decode cX4_drawingOf 71 = .ok (.iload_n 1, 1) := by decide +kernel
theorem dX4_drawingOf_72 : decode cX4_drawingOf 72 = .ok (.iconst 1, 1) := by decide +kernel
theorem dX4_drawingOf_73 : decode cX4_drawingOf 73 = .ok (.invokestatic 85, 3) := by decide +kernel
theorem dX4_drawingOf_76 : decode cX4_drawingOf 76 = .ok (.invokevirtual 65, 3) := by decide +kernel
theorem dX4_drawingOf_79 : decode cX4_drawingOf 79 = .ok (.iconst (-1), 1) := by decide +kernel
theorem dX4_drawingOf_80 : decode cX4_drawingOf 80 = .ok (.if_icmp .ne 8, 3) := by decide +kernel
theorem dX4_drawingOf_83 : decode cX4_drawingOf 83 = .ok (.ldc 160, 2) := by decide +kernel
theorem dX4_drawingOf_85 : decode cX4_drawingOf 85 = .ok (.goto 12, 3) := by decide +kernel
theorem dX4_drawingOf_88 : decode cX4_drawingOf 88 = .ok (.aload_n 0, 1) := by decide +kernel
theorem dX4_drawingOf_89 : decode cX4_drawingOf 89 = .ok (.iload_n 1, 1) := by decide +kernel
theorem dX4_drawingOf_90 : decode cX4_drawingOf 90 = .ok (.iconst 1, 1) := by decide +kernel
theorem dX4_drawingOf_91 : decode cX4_drawingOf 91 = .ok (.invokestatic 85, 3) := by decide +kernel
theorem dX4_drawingOf_94 : decode cX4_drawingOf 94 = .ok (.invokevirtual 65, 3) := by decide +kernel
theorem dX4_drawingOf_97 : decode cX4_drawingOf 97 = .ok (.ireturn, 1) := by decide +kernel
theorem dX4_drawingOf_98 : decode cX4_drawingOf 98 = .ok (.aload_n 0, 1) := by decide +kernel
theorem dX4_drawingOf_99 : decode cX4_drawingOf 99 = .ok (.iload_n 1, 1) := by decide +kernel
theorem dX4_drawingOf_100 : decode cX4_drawingOf 100 = .ok (.invokevirtual 161, 3) := by decide +kernel
theorem dX4_drawingOf_103 : decode cX4_drawingOf 103 = .ok (.ireturn, 1) := by decide +kernel
theorem dX4_drawingOf_104 : decode cX4_drawingOf 104 = .ok (.aload_n 0, 1) := by decide +kernel
theorem dX4_drawingOf_105 : decode cX4_drawingOf 105 = .ok (.iload_n 1, 1) := by decide +kernel
theorem dX4_drawingOf_106 : decode cX4_drawingOf 106 = .ok (.invokevirtual 164, 3) := by decide +kernel
theorem dX4_drawingOf_109 : decode cX4_drawingOf 109 = .ok (.ireturn, 1) := by decide +kernel
theorem dX4_drawingOf_110 : decode cX4_drawingOf 110 = .ok (.aload_n 0, 1) := by decide +kernel
theorem dX4_drawingOf_111 : decode cX4_drawingOf 111 = .ok (.iload_n 1, 1) := by decide +kernel
theorem dX4_drawingOf_112 : decode cX4_drawingOf 112 = .ok (.iconst 4, 1) := by decide +kernel
theorem dX4_drawingOf_113 : decode cX4_drawingOf 113 = .ok (.iload_n 2, 1) := by decide +kernel
theorem dX4_drawingOf_114 : decode cX4_drawingOf 114 = .ok (.iadd, 1) := by decide +kernel
theorem dX4_drawingOf_115 : decode cX4_drawingOf 115 = .ok (.iconst 4, 1) := by decide +kernel
theorem dX4_drawingOf_116 : decode cX4_drawingOf 116 = .ok (.isub, 1) := by decide +kernel
theorem dX4_drawingOf_117 : decode cX4_drawingOf 117 = .ok (.invokestatic 85, 3) := by decide +kernel
theorem dX4_drawingOf_120 : decode cX4_drawingOf 120 = .ok (.invokevirtual 65, 3) := by decide +kernel
theorem dX4_drawingOf_123 : decode cX4_drawingOf 123 = .ok (.ireturn, 1) := by decide +kernel
theorem dX4_drawingOf_124 : decode cX4_drawingOf 124 = .ok (.aload_n 0, 1) := by decide +kernel
theorem dX4_drawingOf_125 : decode cX4_drawingOf 125 = .ok (.iload_n 1, 1) := by decide +kernel
theorem dX4_drawingOf_126 : decode cX4_drawingOf 126 = .ok (.invokevirtual 167, 3) := by decide +kernel
theorem dX4_drawingOf_129 : decode cX4_drawingOf 129 = .ok (.ireturn, 1) := by decide +kernel
theorem dX4_drawingOf_130 : decode cX4_drawingOf 130 = .ok (.aload_n 0, 1) := by decide +kernel
theorem dX4_drawingOf_131 : decode cX4_drawingOf 131 = .ok (.iload_n 1, 1) := by decide +kernel
theorem dX4_drawingOf_132 : decode cX4_drawingOf 132 = .ok (.invokevirtual 170, 3) := by decide +kernel
theorem dX4_drawingOf_135 : decode cX4_drawingOf 135 = .ok (.invokestatic 174, 3) := by decide +kernel
theorem dX4_drawingOf_138 : decode cX4_drawingOf 138 = .ok (.ireturn, 1) := by decide +kernel
theorem dX4_drawingOf_139 : decode cX4_drawingOf 139 = .ok (.aload_n 0, 1) := by decide +kernel
theorem dX4_drawingOf_140 : decode cX4_drawingOf 140 = .ok (.iload_n 1, 1) := by decide +kernel
theorem dX4_drawingOf_141 : decode cX4_drawingOf 141 = .ok (.invokevirtual 170, 3) := by decide +kernel
theorem dX4_drawingOf_144 : decode cX4_drawingOf 144 = .ok (.ldc 180, 2) := by decide +kernel
theorem dX4_drawingOf_146 : decode cX4_drawingOf 146 = .ok (.fmul, 1) := by decide +kernel
theorem dX4_drawingOf_147 : decode cX4_drawingOf 147 = .ok (.f2i, 1) := by decide +kernel
theorem dX4_drawingOf_148 : decode cX4_drawingOf 148 = .ok (.ireturn, 1) := by decide +kernel
theorem dX4_drawingOf_149 : decode cX4_drawingOf 149 = .ok (.aload_n 0, 1) := by decide +kernel
theorem dX4_drawingOf_150 : decode cX4_drawingOf 150 = .ok (.iload_n 1, 1) := by decide +kernel
theorem dX4_drawingOf_151 : decode cX4_drawingOf 151 = .ok (.iload_n 2, 1) := by decide +kernel
theorem dX4_drawingOf_152 : decode cX4_drawingOf 152 = .ok (.invokevirtual 181, 3) := by decide +kernel
theorem dX4_drawingOf_155 : decode cX4_drawingOf 155 = .ok (.ireturn, 1) := by decide +kernel
theorem dX4_drawing_0 : decode cX4_drawing 0 = .ok (.aload_n 0, 1) := by decide +kernel
theorem dX4_drawing_1 : decode cX4_drawing 1 = .ok (.iload_n 1, 1) := by decide +kernel
theorem dX4_drawing_2 : decode cX4_drawing 2 = .ok (.invokevirtual 89, 3) := by decide +kernel
theorem dX4_drawing_5 : decode cX4_drawing 5 = .ok (.ifCond .eq 22, 3) := by decide +kernel
theorem dX4_drawing_8 : decode cX4_drawing 8 = .ok (.iload_n 2, 1) := by decide +kernel
theorem dX4_drawing_9 : decode cX4_drawing 9 = .ok (.iconst 0, 1) := by decide +kernel
theorem dX4_drawing_10 : decode cX4_drawing 10 = .ok (.bipush 11, 2) := by decide +kernel
theorem dX4_drawing_12 : decode cX4_drawing 12 = .ok (.invokestatic 57, 3) := by decide +kernel
theorem dX4_drawing_15 : decode cX4_drawing 15 = .ok (.ifCond .eq 12, 3) := by decide +kernel
theorem dX4_drawing_18 : decode cX4_drawing 18 = .ok (.aload_n 0, 1) := by decide +kernel
theorem dX4_drawing_19 : decode cX4_drawing 19 = .ok (.iload_n 1, 1) := by decide +kernel
end
section
theorem dX4_drawing_20 : decode cX4_drawing 20 = .ok (.iload_n 2, 1) := by decide +kernel
theorem dX4_drawing_21 : decode cX4_drawing 21 = .ok (.invokevirtual 184, 3) := by decide +kernel
theorem dX4_drawing_24 : decode cX4_drawing 24 = .ok (.goto 5, 3) := by decide +kernel
theorem dX4_drawing_27 : decode cX4_drawing 27 = .ok (.ldc 61, 2) := by decide +kernel
theorem dX4_drawing_29 : decode cX4_drawing 29 = .ok (.ireturn, 1) := by decide +kernel
theorem dX4_ratio_0 : decode cX4_ratio 0 = .ok (.aload_n 0, 1) := by decide +kernel
theorem dX4_ratio_1 : decode cX4_ratio 1 = .ok (.iload_n 1, 1) := by decide +kernel
theorem dX4_ratio_2 : decode cX4_ratio 2 = .ok (.invokevirtual 89, 3) := by decide +kernel
theorem dX4_ratio_5 : decode cX4_ratio 5 = .ok (.ifCond .eq 26, 3) := by decide +kernel
theorem dX4_ratio_8 : decode cX4_ratio 8 = .ok (.iload_n 2, 1) := by decide +kernel
theorem dX4_ratio_9 : decode cX4_ratio 9 = .ok (.iconst 0, 1) := by decide +kernel
theorem dX4_ratio_10 : decode cX4_ratio 10 = .ok (.iconst 1, 1) := by decide +kernel
theorem dX4_ratio_11 : decode cX4_ratio 11 = .ok (.invokestatic 57, 3) := by decide +kernel
theorem dX4_ratio_14 : decode cX4_ratio 14 = .ok (.ifCond .eq 17, 3) := by decide +kernel
theorem dX4_ratio_17 : decode cX4_ratio 17 = .ok (.aload_n 0, 1) := by decide +kernel
theorem dX4_ratio_18 : decode cX4_ratio 18 = .ok (.iload_n 1, 1) := by decide +kernel
theorem dX4_ratio_19 : decode cX4_ratio 19 = .ok (.iconst 2, 1) := by decide +kernel
theorem dX4_ratio_20 : decode cX4_ratio 20 = .ok (.iload_n 2, 1) := by decide +kernel
theorem dX4_ratio_21 : decode cX4_ratio 21 = .ok (.iadd, 1) := by decide +kernel
theorem dX4_ratio_22 : decode cX4_ratio 22 = .ok (.invokestatic 85, 3) := by decide +kernel
theorem dX4_ratio_25 : decode cX4_ratio 25 = .ok (.invokevirtual 65, 3) := by decide +kernel
theorem dX4_ratio_28 : decode cX4_ratio 28 = .ok (.goto 5, 3) := by decide +kernel
theorem dX4_ratio_31 : decode cX4_ratio 31 = .ok (.ldc 61, 2) := by decide +kernel
theorem dX4_ratio_33 : decode cX4_ratio 33 = .ok (.ireturn, 1) := by decide +kernel
theorem dX4_pointInfo_0 : decode cX4_pointInfo 0 = .ok (.aload_n 0, 1) := by decide +kernel
theorem dX4_pointInfo_1 : decode cX4_pointInfo 1 = .ok (.iload_n 1, 1) := by decide +kernel
theorem dX4_pointInfo_2 : decode cX4_pointInfo 2 = .ok (.iload_n 2, 1) := by decide +kernel
theorem dX4_pointInfo_3 : decode cX4_pointInfo 3 = .ok (.invokevirtual 187, 3) := by decide +kernel
theorem dX4_pointInfo_6 : decode cX4_pointInfo 6 = .ok (.ifCond .eq 28, 3) := by decide +kernel
theorem dX4_pointInfo_9 : decode cX4_pointInfo 9 = .ok (.iload_n 3, 1) := by decide +kernel
theorem dX4_pointInfo_10 : decode cX4_pointInfo 10 = .ok (.iconst 0, 1) := by decide +kernel
theorem dX4_pointInfo_11 : decode cX4_pointInfo 11 = .ok (.bipush 6, 2) := by decide +kernel
theorem dX4_pointInfo_13 : decode cX4_pointInfo 13 = .ok (.invokestatic 57, 3) := by decide +kernel
theorem dX4_pointInfo_16 : decode cX4_pointInfo 16 = .ok (.ifCond .eq 18, 3) := by decide +kernel
theorem dX4_pointInfo_19 : decode cX4_pointInfo 19 = .ok (.aload_n 0, 1) := by decide +kernel
theorem dX4_pointInfo_20 : decode cX4_pointInfo 20 = .ok (.getfield 7, 3) := by decide +kernel
theorem dX4_pointInfo_23 : decode cX4_pointInfo 23 = .ok (.iload_n 1, 1) := by decide +kernel
theorem dX4_pointInfo_24 : decode cX4_pointInfo 24 = .ok (.iload_n 2, 1) := by decide +kernel
theorem dX4_pointInfo_25 : decode cX4_pointInfo 25 = .ok (.invokestatic 104, 3) := by decide +kernel
theorem dX4_pointInfo_28 : decode cX4_pointInfo 28 = .ok (.iload_n 3, 1) := by decide +kernel
theorem dX4_pointInfo_29 : decode cX4_pointInfo 29 = .ok (.iadd, 1) := by decide +kernel
theorem dX4_pointInfo_30 : decode cX4_pointInfo 30 = .ok (.laload, 1) := by decide +kernel
theorem dX4_pointInfo_31 : decode cX4_pointInfo 31 = .ok (.goto 6, 3) := by decide +kernel
theorem dX4_pointInfo_34 : decode cX4_pointInfo 34 = .ok (.ldc2_w 190, 3) := by decide +kernel
theorem dX4_pointInfo_37 : decode cX4_pointInfo 37 = .ok (.lreturn, 1) := by decide +kernel
theorem dX4_atOnce_0 : decode cX4_atOnce 0 = .ok (.aload_n 0, 1) := by decide +kernel
theorem dX4_atOnce_1 : decode cX4_atOnce 1 = .ok (.iload_n 1, 1) := by decide +kernel
theorem dX4_atOnce_2 : decode cX4_atOnce 2 = .ok (.iload_n 2, 1) := by decide +kernel
theorem dX4_atOnce_3 : decode cX4_atOnce 3 = .ok (.invokevirtual 187, 3) := by decide +kernel
theorem dX4_atOnce_6 : decode cX4_atOnce 6 = .ok (.ifCond .eq 12, 3) := by decide +kernel
theorem dX4_atOnce_9 : decode cX4_atOnce 9 = .ok (.iload_n 3, 1) := by decide +kernel
theorem dX4_atOnce_10 : decode cX4_atOnce 10 = .ok (.iconst 0, 1) := by decide +kernel
theorem dX4_atOnce_11 : decode cX4_atOnce 11 = .ok (.iconst 3, 1) := by decide +kernel
theorem dX4_atOnce_12 : decode cX4_atOnce 12 = .ok (.invokestatic 57, 3) := by decide +kernel
theorem dX4_atOnce_15 : decode cX4_atOnce 15 = .ok (.ifCond .ne 7, 3) := by decide +kernel
theorem dX4_atOnce_18 : decode cX4_atOnce 18 = .ok (.ldc2_w 190, 3) := by decide +kernel
theorem dX4_atOnce_21 : decode cX4_atOnce 21 = .ok (.lreturn, 1) := by decide +kernel
theorem dX4_atOnce_22 : decode cX4_atOnce 22 = .ok (.iload_n 3, 1) := by decide +kernel
theorem dX4_atOnce_23 : decode cX4_atOnce 23 = .ok (.iconst 2, 1) := by decide +kernel
theorem dX4_atOnce_24 : decode cX4_atOnce 24 = .ok (.idiv, 1) := by decide +kernel
theorem dX4_atOnce_25 : decode cX4_atOnce 25 = .ok (.istore 4, 2) := by decide +kernel
theorem dX4_atOnce_27 : decode cX4_atOnce 27 = .ok (.iload_n 1, 1) := by decide +kernel
theorem dX4_atOnce_28 : decode cX4_atOnce 28 = .ok (.bipush 6, 2) := by decide +kernel
theorem dX4_atOnce_30 : decode cX4_atOnce 30 = .ok (.iconst 2, 1) := by decide +kernel
theorem dX4_atOnce_31 : decode cX4_atOnce 31 = .ok (.iload 4, 2) := by decide +kernel
theorem dX4_atOnce_33 : decode cX4_atOnce 33 = .ok (.imul, 1) := by decide +kernel
theorem dX4_atOnce_34 : decode cX4_atOnce 34 = .ok (.iadd, 1) := by decide +kernel
theorem dX4_atOnce_35 : decode cX4_atOnce 35 = .ok (.invokestatic 85, 3) := by decide +kernel
theorem dX4_atOnce_38 : decode cX4_atOnce 38 = .ok (.istore 5, 2) := by decide +kernel
theorem dX4_atOnce_40 : decode cX4_atOnce 40 = .ok (.aload_n 0, 1) := by decide +kernel
theorem dX4_atOnce_41 : decode cX4_atOnce 41 = .ok (.getfield 7, 3) := by decide +kernel
theorem dX4_atOnce_44 : decode cX4_atOnce 44 = .ok (.aload_n 0, 1) := by decide +kernel
theorem dX4_atOnce_45 : decode cX4_atOnce 45 = .ok (.iload_n 1, 1) := by decide +kernel
theorem dX4_atOnce_46 : decode cX4_atOnce 46 = .ok (.invokevirtual 161, 3) := by decide +kernel
theorem dX4_atOnce_49 : decode cX4_atOnce 49 = .ok (.iload_n 2, 1) := by decide +kernel
theorem dX4_atOnce_50 : decode cX4_atOnce 50 = .ok (.invokestatic 104, 3) := by decide +kernel
theorem dX4_atOnce_53 : decode cX4_atOnce 53 = .ok (.iconst 2, 1) := by decide +kernel
theorem dX4_atOnce_54 : decode cX4_atOnce 54 = .ok (.iload 4, 2) := by decide +kernel
theorem dX4_atOnce_56 : decode cX4_atOnce 56 = .ok (.imul, 1) := by decide +kernel
theorem dX4_atOnce_57 : decode cX4_atOnce 57 = .ok (.iadd, 1) := by decide +kernel
theorem dX4_atOnce_58 : decode cX4_atOnce 58 = .ok (.laload, 1) := by decide +kernel
theorem dX4_atOnce_59 : decode cX4_atOnce 59 = .ok (.lstore 6, 2) := by decide +kernel
theorem dX4_atOnce_61 : decode cX4_atOnce 61 = .ok (.aload_n 0, 1) := by decide +kernel
theorem dX4_atOnce_62 : decode cX4_atOnce 62 = .ok (.getfield 7, 3) := by decide +kernel
theorem dX4_atOnce_65 : decode cX4_atOnce 65 = .ok (.iload_n 1, 1) := by decide +kernel
theorem dX4_atOnce_66 : decode cX4_atOnce 66 = .ok (.iconst 4, 1) := by decide +kernel
theorem dX4_atOnce_67 : decode cX4_atOnce 67 = .ok (.iload 4, 2) := by decide +kernel
theorem dX4_atOnce_69 : decode cX4_atOnce 69 = .ok (.iadd, 1) := by decide +kernel
theorem dX4_atOnce_70 : decode cX4_atOnce 70 = .ok (.invokestatic 85, 3) := by decide +kernel
theorem dX4_atOnce_73 : decode cX4_atOnce 73 = .ok (.laload, 1) := by decide +kernel
theorem dX4_atOnce_74 : decode cX4_atOnce 74 = .ok (.lload 6, 2) := by decide +kernel
theorem dX4_atOnce_76 : decode cX4_atOnce 76 = .ok (.lmul, 1) := by decide +kernel
theorem dX4_atOnce_77 : decode cX4_atOnce 77 = .ok (.lstore 8, 2) := by decide +kernel
theorem dX4_atOnce_79 : decode cX4_atOnce 79 = .ok (.aload_n 0, 1) := by decide +kernel
theorem dX4_atOnce_80 : decode cX4_atOnce 80 = .ok (.aload_n 0, 1) := by decide +kernel
theorem dX4_atOnce_81 : decode cX4_atOnce 81 = .ok (.getfield 7, 3) := by decide +kernel
theorem dX4_atOnce_84 : decode cX4_atOnce 84 = .ok (.iload 5, 2) := by decide +kernel
theorem dX4_atOnce_86 : decode cX4_atOnce 86 = .ok (.laload, 1) := by decide +kernel
theorem dX4_atOnce_87 : decode cX4_atOnce 87 = .ok (.aload_n 0, 1) := by decide +kernel
theorem dX4_atOnce_88 : decode cX4_atOnce 88 = .ok (.getfield 7, 3) := by decide +kernel
theorem dX4_atOnce_91 : decode cX4_atOnce 91 = .ok (.iload 5, 2) := by decide +kernel
theorem dX4_atOnce_93 : decode cX4_atOnce 93 = .ok (.iconst 1, 1) := by decide +kernel
theorem dX4_atOnce_94 : decode cX4_atOnce 94 = .ok (.iadd, 1) := by decide +kernel
theorem dX4_atOnce_95 : decode cX4_atOnce 95 = .ok (.laload, 1) := by decide +kernel
theorem dX4_atOnce_96 : decode cX4_atOnce 96 = .ok (.lload 8, 2) := by decide +kernel
theorem dX4_atOnce_98 : decode cX4_atOnce 98 = .ok (.aload_n 0, 1) := by decide +kernel
theorem dX4_atOnce_99 : decode cX4_atOnce 99 = .ok (.getfield 7, 3) := by decide +kernel
theorem dX4_atOnce_102 : decode cX4_atOnce 102 = .ok (.iload_n 1, 1) := by decide +kernel
theorem dX4_atOnce_103 : decode cX4_atOnce 103 = .ok (.iconst 2, 1) := by decide +kernel
theorem dX4_atOnce_104 : decode cX4_atOnce 104 = .ok (.invokestatic 85, 3) := by decide +kernel
theorem dX4_atOnce_107 : decode cX4_atOnce 107 = .ok (.laload, 1) := by decide +kernel
theorem dX4_atOnce_108 : decode cX4_atOnce 108 = .ok (.aload_n 0, 1) := by decide +kernel
theorem dX4_atOnce_109 : decode cX4_atOnce 109 = .ok (.getfield 7, 3) := by decide +kernel
theorem dX4_atOnce_112 : decode cX4_atOnce 112 = .ok (.iload_n 1, 1) := by decide +kernel
theorem dX4_atOnce_113 : decode cX4_atOnce 113 = .ok (.iconst 3, 1) := by decide +kernel
theorem dX4_atOnce_114 : decode cX4_atOnce 114 = .ok (.invokestatic 85, 3) := by decide +kernel
theorem dX4_atOnce_117 : decode cX4_atOnce 117 = .ok (.laload, 1) := by decide +kernel
theorem dX4_atOnce_118 : decode cX4_atOnce 118 = .ok (.invokevirtual 107, 3) := by decide +kernel
theorem dX4_atOnce_121 : decode cX4_atOnce 121 = .ok (.iload_n 3, 1) := by decide +kernel
theorem dX4_atOnce_122 : decode cX4_atOnce 122 = .ok (.iconst 2, 1) := by decide +kernel
theorem dX4_atOnce_123 : decode cX4_atOnce 123 = .ok (.irem, 1) := by decide +kernel
theorem dX4_atOnce_124 : decode cX4_atOnce 124 = .ok (.ifCond .ne 10, 3) := by decide +kernel
theorem dX4_atOnce_127 : decode cX4_atOnce 127 = .ok (.aload_n 0, 1) := by decide +kernel
theorem dX4_atOnce_128 : decode cX4_atOnce 128 = .ok (.getfield 46, 3) := by decide +kernel
theorem dX4_atOnce_131 : decode cX4_atOnce 131 = .ok (.goto 7, 3) := by decide +kernel
theorem dX4_atOnce_134 : decode cX4_atOnce 134 = .ok (.aload_n 0, 1) := by decide +kernel
theorem dX4_atOnce_135 : decode cX4_atOnce 135 = .ok (.getfield 50, 3) := by decide +kernel
theorem dX4_atOnce_138 : decode cX4_atOnce 138 = .ok (.lreturn, 1) := by decide +kernel
theorem dX4_alike_0 : decode cX4_alike 0 = .ok (.aload_n 0, 1) := by decide +kernel
theorem dX4_alike_1 : decode cX4_alike 1 = .ok (.iload_n 1, 1) := by decide +kernel
theorem dX4_alike_2 : decode cX4_alike 2 = .ok (.invokevirtual 89, 3) := by decide +kernel
theorem dX4_alike_5 : decode cX4_alike 5 = .ok (.ifCond .eq 11, 3) := by decide +kernel
theorem dX4_alike_8 : decode cX4_alike 8 = .ok (.aload_n 0, 1) := by decide +kernel
theorem dX4_alike_9 : decode cX4_alike 9 = .ok (.iload_n 2, 1) := by decide +kernel
theorem dX4_alike_10 : decode cX4_alike 10 = .ok (.invokevirtual 89, 3) := by decide +kernel
theorem dX4_alike_13 : decode cX4_alike 13 = .ok (.ifCond .ne 6, 3) := by decide +kernel
theorem dX4_alike_16 : decode cX4_alike 16 = .ok (.ldc 61, 2) := by decide +kernel
theorem dX4_alike_18 : decode cX4_alike 18 = .ok (.ireturn, 1) := by decide +kernel
theorem dX4_alike_19 : decode cX4_alike 19 = .ok (.iconst 0, 1) := by decide +kernel
theorem dX4_alike_20 : decode cX4_alike 20 = .ok (.istore_n 3, 1) := by decide +kernel
theorem dX4_alike_21 : decode cX4_alike 21 = .ok (.iconst 0, 1) := by decide +kernel
theorem dX4_alike_22 : decode cX4_alike 22 = .ok (.istore 4, 2) := by decide +kernel
theorem dX4_alike_24 : decode cX4_alike 24 = .ok (.iload 4, 2) := by decide +kernel
theorem dX4_alike_26 : decode cX4_alike 26 = .ok (.aload_n 0, 1) := by decide +kernel
theorem dX4_alike_27 : decode cX4_alike 27 = .ok (.iload_n 1, 1) := by decide +kernel
theorem dX4_alike_28 : decode cX4_alike 28 = .ok (.invokevirtual 93, 3) := by decide +kernel
theorem dX4_alike_31 : decode cX4_alike 31 = .ok (.if_icmp .ge 94, 3) := by decide +kernel
theorem dX4_alike_34 : decode cX4_alike 34 = .ok (.iload 4, 2) := by decide +kernel
theorem dX4_alike_36 : decode cX4_alike 36 = .ok (.aload_n 0, 1) := by decide +kernel
theorem dX4_alike_37 : decode cX4_alike 37 = .ok (.iload_n 2, 1) := by decide +kernel
theorem dX4_alike_38 : decode cX4_alike 38 = .ok (.invokevirtual 93, 3) := by decide +kernel
theorem dX4_alike_41 : decode cX4_alike 41 = .ok (.if_icmp .ge 84, 3) := by decide +kernel
theorem dX4_alike_44 : decode cX4_alike 44 = .ok (.iconst 1, 1) := by decide +kernel
theorem dX4_alike_45 : decode cX4_alike 45 = .ok (.istore 5, 2) := by decide +kernel
theorem dX4_alike_47 : decode cX4_alike 47 = .ok (.iconst 0, 1) := by decide +kernel
theorem dX4_alike_48 : decode cX4_alike 48 = .ok (.istore 6, 2) := by decide +kernel
theorem dX4_alike_50 : decode cX4_alike 50 = .ok (.iload 6, 2) := by decide +kernel
theorem dX4_alike_52 : decode cX4_alike 52 = .ok (.iconst 4, 1) := by decide +kernel
theorem dX4_alike_53 : decode cX4_alike 53 = .ok (.if_icmp .ge 53, 3) := by decide +kernel
theorem dX4_alike_56 : decode cX4_alike 56 = .ok (.iload 5, 2) := by decide +kernel
theorem dX4_alike_58 : decode cX4_alike 58 = .ok (.ifCond .eq 39, 3) := by decide +kernel
theorem dX4_alike_61 : decode cX4_alike 61 = .ok (.aload_n 0, 1) := by decide +kernel
theorem dX4_alike_62 : decode cX4_alike 62 = .ok (.getfield 7, 3) := by decide +kernel
theorem dX4_alike_65 : decode cX4_alike 65 = .ok (.iload_n 1, 1) := by decide +kernel
theorem dX4_alike_66 : decode cX4_alike 66 = .ok (.iload 4, 2) := by decide +kernel
theorem dX4_alike_68 : decode cX4_alike 68 = .ok (.invokestatic 104, 3) := by decide +kernel
theorem dX4_alike_71 : decode cX4_alike 71 = .ok (.iload 6, 2) := by decide +kernel
theorem dX4_alike_73 : decode cX4_alike 73 = .ok (.iadd, 1) := by decide +kernel
theorem dX4_alike_74 : decode cX4_alike 74 = .ok (.laload, 1) := by decide +kernel
theorem dX4_alike_75 : decode cX4_alike 75 = .ok (.aload_n 0, 1) := by decide +kernel
theorem dX4_alike_76 : decode cX4_alike 76 = .ok (.getfield 7, 3) := by decide +kernel
theorem dX4_alike_79 : decode cX4_alike 79 = .ok (.iload_n 2, 1) := by decide +kernel
theorem dX4_alike_80 : decode cX4_alike 80 = .ok (.iload 4, 2) := by decide +kernel
theorem dX4_alike_82 : decode cX4_alike 82 = .ok (.invokestatic 104, 3) := by decide +kernel
theorem dX4_alike_85 : decode cX4_alike 85 = .ok (.iload 6, 2) := by decide +kernel
theorem dX4_alike_87 : decode cX4_alike 87 = .ok (.iadd, 1) := by decide +kernel
theorem dX4_alike_88 : decode cX4_alike 88 = .ok (.laload, 1) := by decide +kernel
theorem dX4_alike_89 : decode cX4_alike 89 = .ok (.lcmp, 1) := by decide +kernel
theorem dX4_alike_90 : decode cX4_alike 90 = .ok (.ifCond .ne 7, 3) := by decide +kernel
theorem dX4_alike_93 : decode cX4_alike 93 = .ok (.iconst 1, 1) := by decide +kernel
theorem dX4_alike_94 : decode cX4_alike 94 = .ok (.goto 4, 3) := by decide +kernel
theorem dX4_alike_97 : decode cX4_alike 97 = .ok (.iconst 0, 1) := by decide +kernel
theorem dX4_alike_98 : decode cX4_alike 98 = .ok (.istore 5, 2) := by decide +kernel
theorem dX4_alike_100 : decode cX4_alike 100 = .ok (.iinc 6 1, 3) := by decide +kernel
theorem dX4_alike_103 : decode cX4_alike 103 = .ok (.goto (-53), 3) := by decide +kernel
theorem dX4_alike_106 : decode cX4_alike 106 = .ok (.iload_n 3, 1) := by decide +kernel
theorem dX4_alike_107 : decode cX4_alike 107 = .ok (.iload 5, 2) := by decide +kernel
theorem dX4_alike_109 : decode cX4_alike 109 = .ok (.ifCond .eq 7, 3) := by decide +kernel
theorem dX4_alike_112 : decode cX4_alike 112 = .ok (.iconst 1, 1) := by decide +kernel
theorem dX4_alike_113 : decode cX4_alike 113 = .ok (.goto 4, 3) := by decide +kernel
theorem dX4_alike_116 : decode cX4_alike 116 = .ok (.iconst 0, 1) := by decide +kernel
theorem dX4_alike_117 : decode cX4_alike 117 = .ok (.iadd, 1) := by decide +kernel
theorem dX4_alike_118 : decode cX4_alike 118 = .ok (.istore_n 3, 1) := by decide +kernel
theorem dX4_alike_119 : decode cX4_alike 119 = .ok (.iinc 4 1, 3) := by decide +kernel
theorem dX4_alike_122 : decode cX4_alike 122 = .ok (.goto (-98), 3) := by decide +kernel
theorem dX4_alike_125 : decode cX4_alike 125 = .ok (.iload_n 3, 1) := by decide +kernel
theorem dX4_alike_126 : decode cX4_alike 126 = .ok (.ireturn, 1) := by decide +kernel
theorem dX4_armFor_0 : decode cX4_armFor 0 = .ok (.aload_n 0, 1) := by decide +kernel
theorem dX4_armFor_1 : decode cX4_armFor 1 = .ok (.iload_n 1, 1) := by decide +kernel
theorem dX4_armFor_2 : decode cX4_armFor 2 = .ok (.invokevirtual 89, 3) := by decide +kernel
theorem dX4_armFor_5 : decode cX4_armFor 5 = .ok (.ifCond .eq 11, 3) := by decide +kernel
theorem dX4_armFor_8 : decode cX4_armFor 8 = .ok (.aload_n 0, 1) := by decide +kernel
theorem dX4_armFor_9 : decode cX4_armFor 9 = .ok (.iload_n 2, 1) := by decide +kernel
theorem dX4_armFor_10 : decode cX4_armFor 10 = .ok (.invokevirtual 89, 3) := by decide +kernel
theorem dX4_armFor_13 : decode cX4_armFor 13 = .ok (.ifCond .ne 6, 3) := by decide +kernel
theorem dX4_armFor_16 : decode cX4_armFor 16 = .ok (.ldc 61, 2) := by decide +kernel
theorem dX4_armFor_18 : decode cX4_armFor 18 = .ok (.ireturn, 1) := by decide +kernel
theorem dX4_armFor_19 : decode cX4_armFor 19 = .ok (.iload_n 1, 1) := by decide +kernel
theorem dX4_armFor_20 : decode cX4_armFor 20 = .ok (.iconst 2, 1) := by decide +kernel
theorem dX4_armFor_21 : decode cX4_armFor 21 = .ok (.invokestatic 85, 3) := by decide +kernel
theorem dX4_armFor_24 : decode cX4_armFor 24 = .ok (.istore_n 3, 1) := by decide +kernel
theorem dX4_armFor_25 : decode cX4_armFor 25 = .ok (.iload_n 2, 1) := by decide +kernel
theorem dX4_armFor_26 : decode cX4_armFor 26 = .ok (.iconst 2, 1) := by decide +kernel
theorem dX4_armFor_27 : decode cX4_armFor 27 = .ok (.invokestatic 85, 3) := by decide +kernel
theorem dX4_armFor_30 : decode cX4_armFor 30 = .ok (.istore 4, 2) := by decide +kernel
theorem dX4_armFor_32 : decode cX4_armFor 32 = .ok (.aload_n 0, 1) := by decide +kernel
theorem dX4_armFor_33 : decode cX4_armFor 33 = .ok (.aload_n 0, 1) := by decide +kernel
theorem dX4_armFor_34 : decode cX4_armFor 34 = .ok (.getfield 7, 3) := by decide +kernel
theorem dX4_armFor_37 : decode cX4_armFor 37 = .ok (.iload_n 3, 1) := by decide +kernel
theorem dX4_armFor_38 : decode cX4_armFor 38 = .ok (.laload, 1) := by decide +kernel
theorem dX4_armFor_39 : decode cX4_armFor 39 = .ok (.aload_n 0, 1) := by decide +kernel
theorem dX4_armFor_40 : decode cX4_armFor 40 = .ok (.getfield 7, 3) := by decide +kernel
theorem dX4_armFor_43 : decode cX4_armFor 43 = .ok (.iload 4, 2) := by decide +kernel
theorem dX4_armFor_45 : decode cX4_armFor 45 = .ok (.iconst 1, 1) := by decide +kernel
theorem dX4_armFor_46 : decode cX4_armFor 46 = .ok (.iadd, 1) := by decide +kernel
theorem dX4_armFor_47 : decode cX4_armFor 47 = .ok (.laload, 1) := by decide +kernel
theorem dX4_armFor_48 : decode cX4_armFor 48 = .ok (.lmul, 1) := by decide +kernel
theorem dX4_armFor_49 : decode cX4_armFor 49 = .ok (.aload_n 0, 1) := by decide +kernel
theorem dX4_armFor_50 : decode cX4_armFor 50 = .ok (.getfield 7, 3) := by decide +kernel
theorem dX4_armFor_53 : decode cX4_armFor 53 = .ok (.iload_n 3, 1) := by decide +kernel
theorem dX4_armFor_54 : decode cX4_armFor 54 = .ok (.iconst 1, 1) := by decide +kernel
theorem dX4_armFor_55 : decode cX4_armFor 55 = .ok (.iadd, 1) := by decide +kernel
theorem dX4_armFor_56 : decode cX4_armFor 56 = .ok (.laload, 1) := by decide +kernel
theorem dX4_armFor_57 : decode cX4_armFor 57 = .ok (.aload_n 0, 1) := by decide +kernel
theorem dX4_armFor_58 : decode cX4_armFor 58 = .ok (.getfield 7, 3) := by decide +kernel
theorem dX4_armFor_61 : decode cX4_armFor 61 = .ok (.iload 4, 2) := by decide +kernel
theorem dX4_armFor_63 : decode cX4_armFor 63 = .ok (.laload, 1) := by decide +kernel
theorem dX4_armFor_64 : decode cX4_armFor 64 = .ok (.lmul, 1) := by decide +kernel
theorem dX4_armFor_65 : decode cX4_armFor 65 = .ok (.invokevirtual 53, 3) := by decide +kernel
theorem dX4_armFor_68 : decode cX4_armFor 68 = .ok (.aload_n 0, 1) := by decide +kernel
theorem dX4_armFor_69 : decode cX4_armFor 69 = .ok (.getfield 46, 3) := by decide +kernel
theorem dX4_armFor_72 : decode cX4_armFor 72 = .ok (.ldc2_w 192, 3) := by decide +kernel
theorem dX4_armFor_75 : decode cX4_armFor 75 = .ok (.lcmp, 1) := by decide +kernel
theorem dX4_armFor_76 : decode cX4_armFor 76 = .ok (.ifCond .gt 14, 3) := by decide +kernel
theorem dX4_armFor_79 : decode cX4_armFor 79 = .ok (.aload_n 0, 1) := by decide +kernel
theorem dX4_armFor_80 : decode cX4_armFor 80 = .ok (.getfield 50, 3) := by decide +kernel
theorem dX4_armFor_83 : decode cX4_armFor 83 = .ok (.ldc2_w 192, 3) := by decide +kernel
theorem dX4_armFor_86 : decode cX4_armFor 86 = .ok (.lcmp, 1) := by decide +kernel
theorem dX4_armFor_87 : decode cX4_armFor 87 = .ok (.ifCond .le 8, 3) := by decide +kernel
theorem dX4_armFor_90 : decode cX4_armFor 90 = .ok (.ldc 160, 2) := by decide +kernel
theorem dX4_armFor_92 : decode cX4_armFor 92 = .ok (.goto 17, 3) := by decide +kernel
theorem dX4_armFor_95 : decode cX4_armFor 95 = .ok (.ldc2_w 28, 3) := by decide +kernel
theorem dX4_armFor_98 : decode cX4_armFor 98 = .ok (.aload_n 0, 1) := by decide +kernel
theorem dX4_armFor_99 : decode cX4_armFor 99 = .ok (.getfield 46, 3) := by decide +kernel
theorem dX4_armFor_102 : decode cX4_armFor 102 = .ok (.lmul, 1) := by decide +kernel
theorem dX4_armFor_103 : decode cX4_armFor 103 = .ok (.aload_n 0, 1) := by decide +kernel
theorem dX4_armFor_104 : decode cX4_armFor 104 = .ok (.getfield 50, 3) := by decide +kernel
theorem dX4_armFor_107 : decode cX4_armFor 107 = .ok (.ladd, 1) := by decide +kernel
theorem dX4_armFor_108 : decode cX4_armFor 108 = .ok (.l2i, 1) := by decide +kernel
theorem dX4_armFor_109 : decode cX4_armFor 109 = .ok (.ireturn, 1) := by decide +kernel
theorem dX4_undo_0 : decode cX4_undo 0 = .ok (.aload_n 0, 1) := by decide +kernel
theorem dX4_undo_1 : decode cX4_undo 1 = .ok (.getfield 34, 3) := by decide +kernel
theorem dX4_undo_4 : decode cX4_undo 4 = .ok (.ifCond .ne 6, 3) := by decide +kernel
theorem dX4_undo_7 : decode cX4_undo 7 = .ok (.ldc 117, 2) := by decide +kernel
theorem dX4_undo_9 : decode cX4_undo 9 = .ok (.ireturn, 1) := by decide +kernel
theorem dX4_undo_10 : decode cX4_undo 10 = .ok (.aload_n 0, 1) := by decide +kernel
theorem dX4_undo_11 : decode cX4_undo 11 = .ok (.dup, 1) := by decide +kernel
theorem dX4_undo_12 : decode cX4_undo 12 = .ok (.getfield 34, 3) := by decide +kernel
theorem dX4_undo_15 : decode cX4_undo 15 = .ok (.iconst 1, 1) := by decide +kernel
theorem dX4_undo_16 : decode cX4_undo 16 = .ok (.isub, 1) := by decide +kernel
theorem dX4_undo_17 : decode cX4_undo 17 = .ok (.putfield 34, 3) := by decide +kernel
theorem dX4_undo_20 : decode cX4_undo 20 = .ok (.aload_n 0, 1) := by decide +kernel
theorem dX4_undo_21 : decode cX4_undo 21 = .ok (.getfield 16, 3) := by decide +kernel
theorem dX4_undo_24 : decode cX4_undo 24 = .ok (.sipush 915, 3) := by decide +kernel
theorem dX4_undo_27 : decode cX4_undo 27 = .ok (.aload_n 0, 1) := by decide +kernel
theorem dX4_undo_28 : decode cX4_undo 28 = .ok (.getfield 34, 3) := by decide +kernel
theorem dX4_undo_31 : decode cX4_undo 31 = .ok (.imul, 1) := by decide +kernel
theorem dX4_undo_32 : decode cX4_undo 32 = .ok (.aload_n 0, 1) := by decide +kernel
theorem dX4_undo_33 : decode cX4_undo 33 = .ok (.getfield 7, 3) := by decide +kernel
theorem dX4_undo_36 : decode cX4_undo 36 = .ok (.iconst 0, 1) := by decide +kernel
theorem dX4_undo_37 : decode cX4_undo 37 = .ok (.invokestatic 38, 3) := by decide +kernel
theorem dX4_undo_40 : decode cX4_undo 40 = .ok (.aload_n 0, 1) := by decide +kernel
theorem dX4_undo_41 : decode cX4_undo 41 = .ok (.getfield 34, 3) := by decide +kernel
theorem dX4_undo_44 : decode cX4_undo 44 = .ok (.ireturn, 1) := by decide +kernel
theorem dX4_type_0 : decode cX4_type 0 = .ok (.iload_n 1, 1) := by decide +kernel
theorem dX4_type_1 : decode cX4_type 1 = .ok (.bipush 32, 2) := by decide +kernel
theorem dX4_type_3 : decode cX4_type 3 = .ok (.bipush 126, 2) := by decide +kernel
theorem dX4_type_5 : decode cX4_type 5 = .ok (.invokestatic 57, 3) := by decide +kernel
theorem dX4_type_8 : decode cX4_type 8 = .ok (.ifCond .ne 6, 3) := by decide +kernel
theorem dX4_type_11 : decode cX4_type 11 = .ok (.ldc 61, 2) := by decide +kernel
theorem dX4_type_13 : decode cX4_type 13 = .ok (.ireturn, 1) := by decide +kernel
theorem dX4_type_14 : decode cX4_type 14 = .ok (.aload_n 0, 1) := by decide +kernel
theorem dX4_type_15 : decode cX4_type 15 = .ok (.getfield 79, 3) := by decide +kernel
theorem dX4_type_18 : decode cX4_type 18 = .ok (.bipush 100, 2) := by decide +kernel
theorem dX4_type_20 : decode cX4_type 20 = .ok (.if_icmp .ne 6, 3) := by decide +kernel
theorem dX4_type_23 : decode cX4_type 23 = .ok (.ldc 84, 2) := by decide +kernel
theorem dX4_type_25 : decode cX4_type 25 = .ok (.ireturn, 1) := by decide +kernel
theorem dX4_type_26 : decode cX4_type 26 = .ok (.aload_n 0, 1) := by decide +kernel
theorem dX4_type_27 : decode cX4_type 27 = .ok (.getfield 19, 3) := by decide +kernel
theorem dX4_type_30 : decode cX4_type 30 = .ok (.aload_n 0, 1) := by decide +kernel
theorem dX4_type_31 : decode cX4_type 31 = .ok (.getfield 79, 3) := by decide +kernel
theorem dX4_type_34 : decode cX4_type 34 = .ok (.iload_n 1, 1) := by decide +kernel
theorem dX4_type_35 : decode cX4_type 35 = .ok (.iastore, 1) := by decide +kernel
theorem dX4_type_36 : decode cX4_type 36 = .ok (.aload_n 0, 1) := by decide +kernel
theorem dX4_type_37 : decode cX4_type 37 = .ok (.dup, 1) := by decide +kernel
theorem dX4_type_38 : decode cX4_type 38 = .ok (.getfield 79, 3) := by decide +kernel
theorem dX4_type_41 : decode cX4_type 41 = .ok (.iconst 1, 1) := by decide +kernel
theorem dX4_type_42 : decode cX4_type 42 = .ok (.iadd, 1) := by decide +kernel
theorem dX4_type_43 : decode cX4_type 43 = .ok (.putfield 79, 3) := by decide +kernel
theorem dX4_type_46 : decode cX4_type 46 = .ok (.aload_n 0, 1) := by decide +kernel
theorem dX4_type_47 : decode cX4_type 47 = .ok (.getfield 79, 3) := by decide +kernel
theorem dX4_type_50 : decode cX4_type 50 = .ok (.ireturn, 1) := by decide +kernel
theorem dX4_clearText_0 : decode cX4_clearText 0 = .ok (.aload_n 0, 1) := by decide +kernel
theorem dX4_clearText_1 : decode cX4_clearText 1 = .ok (.getfield 79, 3) := by decide +kernel
theorem dX4_clearText_4 : decode cX4_clearText 4 = .ok (.istore_n 1, 1) := by decide +kernel
theorem dX4_clearText_5 : decode cX4_clearText 5 = .ok (.aload_n 0, 1) := by decide +kernel
theorem dX4_clearText_6 : decode cX4_clearText 6 = .ok (.iconst 0, 1) := by decide +kernel
theorem dX4_clearText_7 : decode cX4_clearText 7 = .ok (.putfield 79, 3) := by decide +kernel
theorem dX4_clearText_10 : decode cX4_clearText 10 = .ok (.iload_n 1, 1) := by decide +kernel
theorem dX4_clearText_11 : decode cX4_clearText 11 = .ok (.ireturn, 1) := by decide +kernel
theorem dX4_here_0 : decode cX4_here 0 = .ok (.aload_n 0, 1) := by decide +kernel
theorem dX4_here_1 : decode cX4_here 1 = .ok (.getfield 194, 3) := by decide +kernel
theorem dX4_here_4 : decode cX4_here 4 = .ok (.aload_n 0, 1) := by decide +kernel
theorem dX4_here_5 : decode cX4_here 5 = .ok (.getfield 79, 3) := by decide +kernel
theorem dX4_here_8 : decode cX4_here 8 = .ok (.if_icmp .ge 15, 3) := by decide +kernel
theorem dX4_here_11 : decode cX4_here 11 = .ok (.aload_n 0, 1) := by decide +kernel
theorem dX4_here_12 : decode cX4_here 12 = .ok (.getfield 19, 3) := by decide +kernel
theorem dX4_here_15 : decode cX4_here 15 = .ok (.aload_n 0, 1) := by decide +kernel
theorem dX4_here_16 : decode cX4_here 16 = .ok (.getfield 194, 3) := by decide +kernel
theorem dX4_here_19 : decode cX4_here 19 = .ok (.iaload, 1) := by decide +kernel
theorem dX4_here_20 : decode cX4_here 20 = .ok (.goto 4, 3) := by decide +kernel
theorem dX4_here_23 : decode cX4_here 23 = .ok (.iconst (-1), 1) := by decide +kernel
theorem dX4_here_24 : decode cX4_here 24 = .ok (.ireturn, 1) := by decide +kernel
theorem dX4_isFault_0 : decode cX4_isFault 0 = .ok (.aload_n 0, 1) := by decide +kernel
theorem dX4_isFault_1 : decode cX4_isFault 1 = .ok (.aload_n 0, 1) := by decide +kernel
theorem dX4_isFault_2 : decode cX4_isFault 2 = .ok (.getfield 194, 3) := by decide +kernel
theorem dX4_isFault_5 : decode cX4_isFault 5 = .ok (.aload_n 0, 1) := by decide +kernel
theorem dX4_isFault_6 : decode cX4_isFault 6 = .ok (.getfield 79, 3) := by decide +kernel
theorem dX4_isFault_9 : decode cX4_isFault 9 = .ok (.if_icmp .ne 7, 3) := by decide +kernel
theorem dX4_isFault_12 : decode cX4_isFault 12 = .ok (.iconst 2, 1) := by decide +kernel
theorem dX4_isFault_13 : decode cX4_isFault 13 = .ok (.goto 4, 3) := by decide +kernel
theorem dX4_isFault_16 : decode cX4_isFault 16 = .ok (.iconst 1, 1) := by decide +kernel
theorem dX4_isFault_17 : decode cX4_isFault 17 = .ok (.putfield 197, 3) := by decide +kernel
theorem dX4_isFault_20 : decode cX4_isFault 20 = .ok (.iconst 0, 1) := by decide +kernel
theorem dX4_isFault_21 : decode cX4_isFault 21 = .ok (.ireturn, 1) := by decide +kernel
theorem dX4_readNumber_0 : decode cX4_readNumber 0 = .ok (.aload_n 0, 1) := by decide +kernel
theorem dX4_readNumber_1 : decode cX4_readNumber 1 = .ok (.getfield 194, 3) := by decide +kernel
theorem dX4_readNumber_4 : decode cX4_readNumber 4 = .ok (.istore_n 1, 1) := by decide +kernel
theorem dX4_readNumber_5 : decode cX4_readNumber 5 = .ok (.aload_n 0, 1) := by decide +kernel
theorem dX4_readNumber_6 : decode cX4_readNumber 6 = .ok (.iconst 0, 1) := by decide +kernel
theorem dX4_readNumber_7 : decode cX4_readNumber 7 = .ok (.putfield 200, 3) := by decide +kernel
theorem dX4_readNumber_10 : decode cX4_readNumber 10 = .ok (.aload_n 0, 1) := by decide +kernel
theorem dX4_readNumber_11 : decode cX4_readNumber 11 = .ok (.getfield 194, 3) := by decide +kernel
theorem dX4_readNumber_14 : decode cX4_readNumber 14 = .ok (.iload_n 1, 1) := by decide +kernel
theorem dX4_readNumber_15 : decode cX4_readNumber 15 = .ok (.iconst 4, 1) := by decide +kernel
theorem dX4_readNumber_16 : decode cX4_readNumber 16 = .ok (.iadd, 1) := by decide +kernel
theorem dX4_readNumber_17 : decode cX4_readNumber 17 = .ok (.if_icmp .ge 49, 3) := by decide +kernel
theorem dX4_readNumber_20 : decode cX4_readNumber 20 = .ok (.aload_n 0, 1) := by decide +kernel
theorem dX4_readNumber_21 : decode cX4_readNumber 21 = .ok (.invokevirtual 203, 3) := by decide +kernel
theorem dX4_readNumber_24 : decode cX4_readNumber 24 = .ok (.bipush 48, 2) := by decide +kernel
theorem dX4_readNumber_26 : decode cX4_readNumber 26 = .ok (.bipush 57, 2) := by decide +kernel
theorem dX4_readNumber_28 : decode cX4_readNumber 28 = .ok (.invokestatic 57, 3) := by decide +kernel
theorem dX4_readNumber_31 : decode cX4_readNumber 31 = .ok (.ifCond .eq 35, 3) := by decide +kernel
theorem dX4_readNumber_34 : decode cX4_readNumber 34 = .ok (.aload_n 0, 1) := by decide +kernel
theorem dX4_readNumber_35 : decode cX4_readNumber 35 = .ok (.bipush 10, 2) := by decide +kernel
theorem dX4_readNumber_37 : decode cX4_readNumber 37 = .ok (.aload_n 0, 1) := by decide +kernel
theorem dX4_readNumber_38 : decode cX4_readNumber 38 = .ok (.getfield 200, 3) := by decide +kernel
theorem dX4_readNumber_41 : decode cX4_readNumber 41 = .ok (.imul, 1) := by decide +kernel
theorem dX4_readNumber_42 : decode cX4_readNumber 42 = .ok (.aload_n 0, 1) := by decide +kernel
theorem dX4_readNumber_43 : decode cX4_readNumber 43 = .ok (.invokevirtual 203, 3) := by decide +kernel
theorem dX4_readNumber_46 : decode cX4_readNumber 46 = .ok (.iadd, 1) := by decide +kernel
theorem dX4_readNumber_47 : decode cX4_readNumber 47 = .ok (.bipush 48, 2) := by decide +kernel
theorem dX4_readNumber_49 : decode cX4_readNumber 49 = .ok (.isub, 1) := by decide +kernel
theorem dX4_readNumber_50 : decode cX4_readNumber 50 = .ok (.putfield 200, 3) := by decide +kernel
theorem dX4_readNumber_53 : decode cX4_readNumber 53 = .ok (.aload_n 0, 1) := by decide +kernel
theorem dX4_readNumber_54 : decode cX4_readNumber 54 = .ok (.dup, 1) := by decide +kernel
theorem dX4_readNumber_55 : decode cX4_readNumber 55 = .ok (.getfield 194, 3) := by decide +kernel
theorem dX4_readNumber_58 : decode cX4_readNumber 58 = .ok (.iconst 1, 1) := by decide +kernel
theorem dX4_readNumber_59 : decode cX4_readNumber 59 = .ok (.iadd, 1) := by decide +kernel
theorem dX4_readNumber_60 : decode cX4_readNumber 60 = .ok (.putfield 194, 3) := by decide +kernel
theorem dX4_readNumber_63 : decode cX4_readNumber 63 = .ok (.goto (-53), 3) := by decide +kernel
theorem dX4_readNumber_66 : decode cX4_readNumber 66 = .ok (.aload_n 0, 1) := by decide +kernel
theorem dX4_readNumber_67 : decode cX4_readNumber 67 = .ok (.getfield 194, 3) := by decide +kernel
theorem dX4_readNumber_70 : decode cX4_readNumber 70 = .ok (.iload_n 1, 1) := by decide +kernel
theorem dX4_readNumber_71 : decode cX4_readNumber 71 = .ok (.if_icmp .ne 8, 3) := by decide +kernel
theorem dX4_readNumber_74 : decode cX4_readNumber 74 = .ok (.aload_n 0, 1) := by decide +kernel
theorem dX4_readNumber_75 : decode cX4_readNumber 75 = .ok (.invokevirtual 206, 3) := by decide +kernel
theorem dX4_readNumber_78 : decode cX4_readNumber 78 = .ok (.ireturn, 1) := by decide +kernel
theorem dX4_readNumber_79 : decode cX4_readNumber 79 = .ok (.aload_n 0, 1) := by decide +kernel
theorem dX4_readNumber_80 : decode cX4_readNumber 80 = .ok (.getfield 200, 3) := by decide +kernel
theorem dX4_readNumber_83 : decode cX4_readNumber 83 = .ok (.sipush 1000, 3) := by decide +kernel
theorem dX4_readNumber_86 : decode cX4_readNumber 86 = .ok (.if_icmp .le 15, 3) := by decide +kernel
theorem dX4_readNumber_89 : decode cX4_readNumber 89 = .ok (.aload_n 0, 1) := by decide +kernel
theorem dX4_readNumber_90 : decode cX4_readNumber 90 = .ok (.iload_n 1, 1) := by decide +kernel
theorem dX4_readNumber_91 : decode cX4_readNumber 91 = .ok (.putfield 194, 3) := by decide +kernel
theorem dX4_readNumber_94 : decode cX4_readNumber 94 = .ok (.aload_n 0, 1) := by decide +kernel
theorem dX4_readNumber_95 : decode cX4_readNumber 95 = .ok (.iconst 3, 1) := by decide +kernel
theorem dX4_readNumber_96 : decode cX4_readNumber 96 = .ok (.putfield 197, 3) := by decide +kernel
theorem dX4_readNumber_99 : decode cX4_readNumber 99 = .ok (.iconst 0, 1) := by decide +kernel
theorem dX4_readNumber_100 : decode cX4_readNumber 100 = .ok (.ireturn, 1) := by decide +kernel
theorem dX4_readNumber_101 : decode cX4_readNumber 101 = .ok (.iconst 1, 1) := by decide +kernel
theorem dX4_readNumber_102 : decode cX4_readNumber 102 = .ok (.ireturn, 1) := by decide +kernel
theorem dX4_readPoint_0 : decode cX4_readPoint 0 = .ok (.iload_n 1, 1) := by decide +kernel
theorem dX4_readPoint_1 : decode cX4_readPoint 1 = .ok (.bipush 20, 2) := by decide +kernel
theorem dX4_readPoint_3 : decode cX4_readPoint 3 = .ok (.if_icmp .ne 24, 3) := by decide +kernel
theorem dX4_readPoint_6 : decode cX4_readPoint 6 = .ok (.aload_n 0, 1) := by decide +kernel
theorem dX4_readPoint_7 : decode cX4_readPoint 7 = .ok (.invokevirtual 203, 3) := by decide +kernel
theorem dX4_readPoint_10 : decode cX4_readPoint 10 = .ok (.bipush 48, 2) := by decide +kernel
theorem dX4_readPoint_12 : decode cX4_readPoint 12 = .ok (.bipush 57, 2) := by decide +kernel
theorem dX4_readPoint_14 : decode cX4_readPoint 14 = .ok (.invokestatic 57, 3) := by decide +kernel
theorem dX4_readPoint_17 : decode cX4_readPoint 17 = .ok (.ifCond .eq 10, 3) := by decide +kernel
theorem dX4_readPoint_20 : decode cX4_readPoint 20 = .ok (.aload_n 0, 1) := by decide +kernel
theorem dX4_readPoint_21 : decode cX4_readPoint 21 = .ok (.iconst 4, 1) := by decide +kernel
theorem dX4_readPoint_22 : decode cX4_readPoint 22 = .ok (.putfield 197, 3) := by decide +kernel
theorem dX4_readPoint_25 : decode cX4_readPoint 25 = .ok (.iconst 0, 1) := by decide +kernel
theorem dX4_readPoint_26 : decode cX4_readPoint 26 = .ok (.ireturn, 1) := by decide +kernel
theorem dX4_readPoint_27 : decode cX4_readPoint 27 = .ok (.aload_n 0, 1) := by decide +kernel
theorem dX4_readPoint_28 : decode cX4_readPoint 28 = .ok (.invokevirtual 209, 3) := by decide +kernel
theorem dX4_readPoint_31 : decode cX4_readPoint 31 = .ok (.ifCond .ne 5, 3) := by decide +kernel
theorem dX4_readPoint_34 : decode cX4_readPoint 34 = .ok (.iconst 0, 1) := by decide +kernel
theorem dX4_readPoint_35 : decode cX4_readPoint 35 = .ok (.ireturn, 1) := by decide +kernel
theorem dX4_readPoint_36 : decode cX4_readPoint 36 = .ok (.aload_n 0, 1) := by decide +kernel
theorem dX4_readPoint_37 : decode cX4_readPoint 37 = .ok (.getfield 200, 3) := by decide +kernel
theorem dX4_readPoint_40 : decode cX4_readPoint 40 = .ok (.istore_n 3, 1) := by decide +kernel
theorem dX4_readPoint_41 : decode cX4_readPoint 41 = .ok (.aload_n 0, 1) := by decide +kernel
theorem dX4_readPoint_42 : decode cX4_readPoint 42 = .ok (.invokevirtual 203, 3) := by decide +kernel
theorem dX4_readPoint_45 : decode cX4_readPoint 45 = .ok (.bipush 44, 2) := by decide +kernel
theorem dX4_readPoint_47 : decode cX4_readPoint 47 = .ok (.if_icmp .eq 8, 3) := by decide +kernel
theorem dX4_readPoint_50 : decode cX4_readPoint 50 = .ok (.aload_n 0, 1) := by decide +kernel
theorem dX4_readPoint_51 : decode cX4_readPoint 51 = .ok (.invokevirtual 206, 3) := by decide +kernel
theorem dX4_readPoint_54 : decode cX4_readPoint 54 = .ok (.ireturn, 1) := by decide +kernel
theorem dX4_readPoint_55 : decode cX4_readPoint 55 = .ok (.aload_n 0, 1) := by decide +kernel
theorem dX4_readPoint_56 : decode cX4_readPoint 56 = .ok (.dup, 1) := by decide +kernel
theorem dX4_readPoint_57 : decode cX4_readPoint 57 = .ok (.getfield 194, 3) := by decide +kernel
theorem dX4_readPoint_60 : decode cX4_readPoint 60 = .ok (.iconst 1, 1) := by decide +kernel
theorem dX4_readPoint_61 : decode cX4_readPoint 61 = .ok (.iadd, 1) := by decide +kernel
theorem dX4_readPoint_62 : decode cX4_readPoint 62 = .ok (.putfield 194, 3) := by decide +kernel
theorem dX4_readPoint_65 : decode cX4_readPoint 65 = .ok (.aload_n 0, 1) := by decide +kernel
theorem dX4_readPoint_66 : decode cX4_readPoint 66 = .ok (.invokevirtual 209, 3) := by decide +kernel
theorem dX4_readPoint_69 : decode cX4_readPoint 69 = .ok (.ifCond .ne 5, 3) := by decide +kernel
theorem dX4_readPoint_72 : decode cX4_readPoint 72 = .ok (.iconst 0, 1) := by decide +kernel
theorem dX4_readPoint_73 : decode cX4_readPoint 73 = .ok (.ireturn, 1) := by decide +kernel
theorem dX4_readPoint_74 : decode cX4_readPoint 74 = .ok (.aload_n 0, 1) := by decide +kernel
theorem dX4_readPoint_75 : decode cX4_readPoint 75 = .ok (.getfield 23, 3) := by decide +kernel
theorem dX4_readPoint_78 : decode cX4_readPoint 78 = .ok (.iconst 3, 1) := by decide +kernel
theorem dX4_readPoint_79 : decode cX4_readPoint 79 = .ok (.iload_n 1, 1) := by decide +kernel
theorem dX4_readPoint_80 : decode cX4_readPoint 80 = .ok (.imul, 1) := by decide +kernel
theorem dX4_readPoint_81 : decode cX4_readPoint 81 = .ok (.iload_n 3, 1) := by decide +kernel
theorem dX4_readPoint_82 : decode cX4_readPoint 82 = .ok (.iastore, 1) := by decide +kernel
theorem dX4_readPoint_83 : decode cX4_readPoint 83 = .ok (.aload_n 0, 1) := by decide +kernel
theorem dX4_readPoint_84 : decode cX4_readPoint 84 = .ok (.getfield 23, 3) := by decide +kernel
theorem dX4_readPoint_87 : decode cX4_readPoint 87 = .ok (.iconst 3, 1) := by decide +kernel
theorem dX4_readPoint_88 : decode cX4_readPoint 88 = .ok (.iload_n 1, 1) := by decide +kernel
theorem dX4_readPoint_89 : decode cX4_readPoint 89 = .ok (.imul, 1) := by decide +kernel
theorem dX4_readPoint_90 : decode cX4_readPoint 90 = .ok (.iconst 1, 1) := by decide +kernel
theorem dX4_readPoint_91 : decode cX4_readPoint 91 = .ok (.iadd, 1) := by decide +kernel
theorem dX4_readPoint_92 : decode cX4_readPoint 92 = .ok (.aload_n 0, 1) := by decide +kernel
theorem dX4_readPoint_93 : decode cX4_readPoint 93 = .ok (.getfield 200, 3) := by decide +kernel
theorem dX4_readPoint_96 : decode cX4_readPoint 96 = .ok (.iastore, 1) := by decide +kernel
theorem dX4_readPoint_97 : decode cX4_readPoint 97 = .ok (.aload_n 0, 1) := by decide +kernel
theorem dX4_readPoint_98 : decode cX4_readPoint 98 = .ok (.getfield 23, 3) := by decide +kernel
theorem dX4_readPoint_101 : decode cX4_readPoint 101 = .ok (.iconst 3, 1) := by decide +kernel
theorem dX4_readPoint_102 : decode cX4_readPoint 102 = .ok (.iload_n 1, 1) := by decide +kernel
theorem dX4_readPoint_103 : decode cX4_readPoint 103 = .ok (.imul, 1) := by decide +kernel
theorem dX4_readPoint_104 : decode cX4_readPoint 104 = .ok (.iconst 2, 1) := by decide +kernel
theorem dX4_readPoint_105 : decode cX4_readPoint 105 = .ok (.iadd, 1) := by decide +kernel
theorem dX4_readPoint_106 : decode cX4_readPoint 106 = .ok (.iload_n 2, 1) := by decide +kernel
theorem dX4_readPoint_107 : decode cX4_readPoint 107 = .ok (.iastore, 1) := by decide +kernel
theorem dX4_readPoint_108 : decode cX4_readPoint 108 = .ok (.iconst 1, 1) := by decide +kernel
theorem dX4_readPoint_109 : decode cX4_readPoint 109 = .ok (.ireturn, 1) := by decide +kernel
theorem dX4_readText_0 : decode cX4_readText 0 = .ok (.aload_n 0, 1) := by decide +kernel
theorem dX4_readText_1 : decode cX4_readText 1 = .ok (.iconst 0, 1) := by decide +kernel
theorem dX4_readText_2 : decode cX4_readText 2 = .ok (.putfield 194, 3) := by decide +kernel
theorem dX4_readText_5 : decode cX4_readText 5 = .ok (.aload_n 0, 1) := by decide +kernel
theorem dX4_readText_6 : decode cX4_readText 6 = .ok (.iconst 0, 1) := by decide +kernel
theorem dX4_readText_7 : decode cX4_readText 7 = .ok (.putfield 197, 3) := by decide +kernel
theorem dX4_readText_10 : decode cX4_readText 10 = .ok (.iconst 0, 1) := by decide +kernel
theorem dX4_readText_11 : decode cX4_readText 11 = .ok (.istore_n 1, 1) := by decide +kernel
theorem dX4_readText_12 : decode cX4_readText 12 = .ok (.iconst 1, 1) := by decide +kernel
theorem dX4_readText_13 : decode cX4_readText 13 = .ok (.istore_n 2, 1) := by decide +kernel
theorem dX4_readText_14 : decode cX4_readText 14 = .ok (.iconst 0, 1) := by decide +kernel
theorem dX4_readText_15 : decode cX4_readText 15 = .ok (.istore_n 3, 1) := by decide +kernel
theorem dX4_readText_16 : decode cX4_readText 16 = .ok (.iload_n 2, 1) := by decide +kernel
theorem dX4_readText_17 : decode cX4_readText 17 = .ok (.ifCond .eq 77, 3) := by decide +kernel
theorem dX4_readText_20 : decode cX4_readText 20 = .ok (.aload_n 0, 1) := by decide +kernel
theorem dX4_readText_21 : decode cX4_readText 21 = .ok (.iload_n 1, 1) := by decide +kernel
theorem dX4_readText_22 : decode cX4_readText 22 = .ok (.iload_n 3, 1) := by decide +kernel
theorem dX4_readText_23 : decode cX4_readText 23 = .ok (.invokevirtual 212, 3) := by decide +kernel
theorem dX4_readText_26 : decode cX4_readText 26 = .ok (.ifCond .ne 5, 3) := by decide +kernel
theorem dX4_readText_29 : decode cX4_readText 29 = .ok (.iconst (-1), 1) := by decide +kernel
theorem dX4_readText_30 : decode cX4_readText 30 = .ok (.ireturn, 1) := by decide +kernel
theorem dX4_readText_31 : decode cX4_readText 31 = .ok (.iinc 1 1, 3) := by decide +kernel
theorem dX4_readText_34 : decode cX4_readText 34 = .ok (.aload_n 0, 1) := by decide +kernel
theorem dX4_readText_35 : decode cX4_readText 35 = .ok (.invokevirtual 203, 3) := by decide +kernel
theorem dX4_readText_38 : decode cX4_readText 38 = .ok (.bipush 45, 2) := by decide +kernel
theorem dX4_readText_40 : decode cX4_readText 40 = .ok (.if_icmp .ne 7, 3) := by decide +kernel
theorem dX4_readText_43 : decode cX4_readText 43 = .ok (.iconst 1, 1) := by decide +kernel
theorem dX4_readText_44 : decode cX4_readText 44 = .ok (.goto 4, 3) := by decide +kernel
theorem dX4_readText_47 : decode cX4_readText 47 = .ok (.iconst 0, 1) := by decide +kernel
theorem dX4_readText_48 : decode cX4_readText 48 = .ok (.istore_n 3, 1) := by decide +kernel
theorem dX4_readText_49 : decode cX4_readText 49 = .ok (.aload_n 0, 1) := by decide +kernel
theorem dX4_readText_50 : decode cX4_readText 50 = .ok (.invokevirtual 203, 3) := by decide +kernel
theorem dX4_readText_53 : decode cX4_readText 53 = .ok (.bipush 45, 2) := by decide +kernel
theorem dX4_readText_55 : decode cX4_readText 55 = .ok (.if_icmp .eq 12, 3) := by decide +kernel
theorem dX4_readText_58 : decode cX4_readText 58 = .ok (.aload_n 0, 1) := by decide +kernel
theorem dX4_readText_59 : decode cX4_readText 59 = .ok (.invokevirtual 203, 3) := by decide +kernel
theorem dX4_readText_62 : decode cX4_readText 62 = .ok (.bipush 32, 2) := by decide +kernel
theorem dX4_readText_64 : decode cX4_readText 64 = .ok (.if_icmp .ne 7, 3) := by decide +kernel
theorem dX4_readText_67 : decode cX4_readText 67 = .ok (.iconst 1, 1) := by decide +kernel
theorem dX4_readText_68 : decode cX4_readText 68 = .ok (.goto 4, 3) := by decide +kernel
theorem dX4_readText_71 : decode cX4_readText 71 = .ok (.iconst 0, 1) := by decide +kernel
theorem dX4_readText_72 : decode cX4_readText 72 = .ok (.istore_n 2, 1) := by decide +kernel
theorem dX4_readText_73 : decode cX4_readText 73 = .ok (.aload_n 0, 1) := by decide +kernel
theorem dX4_readText_74 : decode cX4_readText 74 = .ok (.dup, 1) := by decide +kernel
theorem dX4_readText_75 : decode cX4_readText 75 = .ok (.getfield 194, 3) := by decide +kernel
theorem dX4_readText_78 : decode cX4_readText 78 = .ok (.iload_n 2, 1) := by decide +kernel
theorem dX4_readText_79 : decode cX4_readText 79 = .ok (.ifCond .eq 7, 3) := by decide +kernel
theorem dX4_readText_82 : decode cX4_readText 82 = .ok (.iconst 1, 1) := by decide +kernel
theorem dX4_readText_83 : decode cX4_readText 83 = .ok (.goto 4, 3) := by decide +kernel
theorem dX4_readText_86 : decode cX4_readText 86 = .ok (.iconst 0, 1) := by decide +kernel
theorem dX4_readText_87 : decode cX4_readText 87 = .ok (.iadd, 1) := by decide +kernel
theorem dX4_readText_88 : decode cX4_readText 88 = .ok (.putfield 194, 3) := by decide +kernel
theorem dX4_readText_91 : decode cX4_readText 91 = .ok (.goto (-75), 3) := by decide +kernel
theorem dX4_readText_94 : decode cX4_readText 94 = .ok (.aload_n 0, 1) := by decide +kernel
theorem dX4_readText_95 : decode cX4_readText 95 = .ok (.invokevirtual 203, 3) := by decide +kernel
theorem dX4_readText_98 : decode cX4_readText 98 = .ok (.bipush 46, 2) := by decide +kernel
theorem dX4_readText_100 : decode cX4_readText 100 = .ok (.if_icmp .ne 7, 3) := by decide +kernel
theorem dX4_readText_103 : decode cX4_readText 103 = .ok (.iconst 1, 1) := by decide +kernel
theorem dX4_readText_104 : decode cX4_readText 104 = .ok (.goto 4, 3) := by decide +kernel
theorem dX4_readText_107 : decode cX4_readText 107 = .ok (.iconst 0, 1) := by decide +kernel
theorem dX4_readText_108 : decode cX4_readText 108 = .ok (.istore 4, 2) := by decide +kernel
theorem dX4_readText_110 : decode cX4_readText 110 = .ok (.aload_n 0, 1) := by decide +kernel
theorem dX4_readText_111 : decode cX4_readText 111 = .ok (.dup, 1) := by decide +kernel
theorem dX4_readText_112 : decode cX4_readText 112 = .ok (.getfield 194, 3) := by decide +kernel
theorem dX4_readText_115 : decode cX4_readText 115 = .ok (.iload 4, 2) := by decide +kernel
theorem dX4_readText_117 : decode cX4_readText 117 = .ok (.ifCond .eq 7, 3) := by decide +kernel
theorem dX4_readText_120 : decode cX4_readText 120 = .ok (.iconst 1, 1) := by decide +kernel
theorem dX4_readText_121 : decode cX4_readText 121 = .ok (.goto 4, 3) := by decide +kernel
theorem dX4_readText_124 : decode cX4_readText 124 = .ok (.iconst 0, 1) := by decide +kernel
theorem dX4_readText_125 : decode cX4_readText 125 = .ok (.iadd, 1) := by decide +kernel
theorem dX4_readText_126 : decode cX4_readText 126 = .ok (.putfield 194, 3) := by decide +kernel
theorem dX4_readText_129 : decode cX4_readText 129 = .ok (.iload 4, 2) := by decide +kernel
theorem dX4_readText_131 : decode cX4_readText 131 = .ok (.ifCond .eq 14, 3) := by decide +kernel
theorem dX4_readText_134 : decode cX4_readText 134 = .ok (.aload_n 0, 1) := by decide +kernel
theorem dX4_readText_135 : decode cX4_readText 135 = .ok (.getfield 194, 3) := by decide +kernel
theorem dX4_readText_138 : decode cX4_readText 138 = .ok (.aload_n 0, 1) := by decide +kernel
theorem dX4_readText_139 : decode cX4_readText 139 = .ok (.getfield 79, 3) := by decide +kernel
theorem dX4_readText_142 : decode cX4_readText 142 = .ok (.if_icmp .eq 10, 3) := by decide +kernel
theorem dX4_readText_145 : decode cX4_readText 145 = .ok (.aload_n 0, 1) := by decide +kernel
theorem dX4_readText_146 : decode cX4_readText 146 = .ok (.invokevirtual 206, 3) := by decide +kernel
theorem dX4_readText_149 : decode cX4_readText 149 = .ok (.ifCond .eq 7, 3) := by decide +kernel
theorem dX4_readText_152 : decode cX4_readText 152 = .ok (.iconst 1, 1) := by decide +kernel
theorem dX4_readText_153 : decode cX4_readText 153 = .ok (.goto 4, 3) := by decide +kernel
theorem dX4_readText_156 : decode cX4_readText 156 = .ok (.iconst 0, 1) := by decide +kernel
theorem dX4_readText_157 : decode cX4_readText 157 = .ok (.istore 5, 2) := by decide +kernel
theorem dX4_readText_159 : decode cX4_readText 159 = .ok (.iload 5, 2) := by decide +kernel
theorem dX4_readText_161 : decode cX4_readText 161 = .ok (.ifCond .eq 7, 3) := by decide +kernel
theorem dX4_readText_164 : decode cX4_readText 164 = .ok (.iload_n 1, 1) := by decide +kernel
theorem dX4_readText_165 : decode cX4_readText 165 = .ok (.goto 4, 3) := by decide +kernel
theorem dX4_readText_168 : decode cX4_readText 168 = .ok (.iconst (-1), 1) := by decide +kernel
theorem dX4_readText_169 : decode cX4_readText 169 = .ok (.ireturn, 1) := by decide +kernel
theorem dX4_fault_0 : decode cX4_fault 0 = .ok (.iload_n 1, 1) := by decide +kernel
theorem dX4_fault_1 : decode cX4_fault 1 = .ok (.iconst 0, 1) := by decide +kernel
theorem dX4_fault_2 : decode cX4_fault 2 = .ok (.iconst 1, 1) := by decide +kernel
theorem dX4_fault_3 : decode cX4_fault 3 = .ok (.invokestatic 57, 3) := by decide +kernel
theorem dX4_fault_6 : decode cX4_fault 6 = .ok (.ifCond .ne 6, 3) := by decide +kernel
theorem dX4_fault_9 : decode cX4_fault 9 = .ok (.ldc 61, 2) := by decide +kernel
theorem dX4_fault_11 : decode cX4_fault 11 = .ok (.ireturn, 1) := by decide +kernel
theorem dX4_fault_12 : decode cX4_fault 12 = .ok (.aload_n 0, 1) := by decide +kernel
theorem dX4_fault_13 : decode cX4_fault 13 = .ok (.invokevirtual 215, 3) := by decide +kernel
theorem dX4_fault_16 : decode cX4_fault 16 = .ok (.iconst (-1), 1) := by decide +kernel
theorem dX4_fault_17 : decode cX4_fault 17 = .ok (.if_icmp .eq 8, 3) := by decide +kernel
theorem dX4_fault_20 : decode cX4_fault 20 = .ok (.ldc 160, 2) := by decide +kernel
theorem dX4_fault_22 : decode cX4_fault 22 = .ok (.goto 18, 3) := by decide +kernel
theorem dX4_fault_25 : decode cX4_fault 25 = .ok (.iload_n 1, 1) := by decide +kernel
theorem dX4_fault_26 : decode cX4_fault 26 = .ok (.ifCond .ne 10, 3) := by decide +kernel
theorem dX4_fault_29 : decode cX4_fault 29 = .ok (.aload_n 0, 1) := by decide +kernel
theorem dX4_fault_30 : decode cX4_fault 30 = .ok (.getfield 194, 3) := by decide +kernel
theorem dX4_fault_33 : decode cX4_fault 33 = .ok (.goto 7, 3) := by decide +kernel
theorem dX4_fault_36 : decode cX4_fault 36 = .ok (.aload_n 0, 1) := by decide +kernel
theorem dX4_fault_37 : decode cX4_fault 37 = .ok (.getfield 197, 3) := by decide +kernel
theorem dX4_fault_40 : decode cX4_fault 40 = .ok (.ireturn, 1) := by decide +kernel
theorem dX4_read_0 : decode cX4_read 0 = .ok (.aload_n 0, 1) := by decide +kernel
theorem dX4_read_1 : decode cX4_read 1 = .ok (.invokevirtual 215, 3) := by decide +kernel
theorem dX4_read_4 : decode cX4_read 4 = .ok (.istore_n 1, 1) := by decide +kernel
theorem dX4_read_5 : decode cX4_read 5 = .ok (.iload_n 1, 1) := by decide +kernel
theorem dX4_read_6 : decode cX4_read 6 = .ok (.iconst (-1), 1) := by decide +kernel
theorem dX4_read_7 : decode cX4_read 7 = .ok (.if_icmp .ne 6, 3) := by decide +kernel
theorem dX4_read_10 : decode cX4_read 10 = .ok (.ldc 117, 2) := by decide +kernel
theorem dX4_read_12 : decode cX4_read 12 = .ok (.ireturn, 1) := by decide +kernel
theorem dX4_read_13 : decode cX4_read 13 = .ok (.aload_n 0, 1) := by decide +kernel
theorem dX4_read_14 : decode cX4_read 14 = .ok (.getfield 7, 3) := by decide +kernel
theorem dX4_read_17 : decode cX4_read 17 = .ok (.bipush 14, 2) := by decide +kernel
theorem dX4_read_19 : decode cX4_read 19 = .ok (.laload, 1) := by decide +kernel
theorem dX4_read_20 : decode cX4_read 20 = .ok (.ldc2_w 98, 3) := by decide +kernel
theorem dX4_read_23 : decode cX4_read 23 = .ok (.lcmp, 1) := by decide +kernel
theorem dX4_read_24 : decode cX4_read 24 = .ok (.ifCond .ne 6, 3) := by decide +kernel
theorem dX4_read_27 : decode cX4_read 27 = .ok (.ldc 84, 2) := by decide +kernel
theorem dX4_read_29 : decode cX4_read 29 = .ok (.ireturn, 1) := by decide +kernel
theorem dX4_read_30 : decode cX4_read 30 = .ok (.aload_n 0, 1) := by decide +kernel
theorem dX4_read_31 : decode cX4_read 31 = .ok (.invokevirtual 62, 3) := by decide +kernel
theorem dX4_read_34 : decode cX4_read 34 = .ok (.aload_n 0, 1) := by decide +kernel
theorem dX4_read_35 : decode cX4_read 35 = .ok (.invokevirtual 100, 3) := by decide +kernel
theorem dX4_read_38 : decode cX4_read 38 = .ok (.istore_n 2, 1) := by decide +kernel
theorem dX4_read_39 : decode cX4_read 39 = .ok (.iconst 0, 1) := by decide +kernel
theorem dX4_read_40 : decode cX4_read 40 = .ok (.istore_n 3, 1) := by decide +kernel
theorem dX4_read_41 : decode cX4_read 41 = .ok (.iload_n 3, 1) := by decide +kernel
theorem dX4_read_42 : decode cX4_read 42 = .ok (.iload_n 1, 1) := by decide +kernel
theorem dX4_read_43 : decode cX4_read 43 = .ok (.if_icmp .ge 42, 3) := by decide +kernel
theorem dX4_read_46 : decode cX4_read 46 = .ok (.aload_n 0, 1) := by decide +kernel
theorem dX4_read_47 : decode cX4_read 47 = .ok (.iload_n 2, 1) := by decide +kernel
theorem dX4_read_48 : decode cX4_read 48 = .ok (.aload_n 0, 1) := by decide +kernel
theorem dX4_read_49 : decode cX4_read 49 = .ok (.getfield 23, 3) := by decide +kernel
theorem dX4_read_52 : decode cX4_read 52 = .ok (.iconst 3, 1) := by decide +kernel
theorem dX4_read_53 : decode cX4_read 53 = .ok (.iload_n 3, 1) := by decide +kernel
theorem dX4_read_54 : decode cX4_read 54 = .ok (.imul, 1) := by decide +kernel
theorem dX4_read_55 : decode cX4_read 55 = .ok (.iaload, 1) := by decide +kernel
theorem dX4_read_56 : decode cX4_read 56 = .ok (.aload_n 0, 1) := by decide +kernel
theorem dX4_read_57 : decode cX4_read 57 = .ok (.getfield 23, 3) := by decide +kernel
theorem dX4_read_60 : decode cX4_read 60 = .ok (.iconst 3, 1) := by decide +kernel
theorem dX4_read_61 : decode cX4_read 61 = .ok (.iload_n 3, 1) := by decide +kernel
theorem dX4_read_62 : decode cX4_read 62 = .ok (.imul, 1) := by decide +kernel
theorem dX4_read_63 : decode cX4_read 63 = .ok (.iconst 1, 1) := by decide +kernel
theorem dX4_read_64 : decode cX4_read 64 = .ok (.iadd, 1) := by decide +kernel
theorem dX4_read_65 : decode cX4_read 65 = .ok (.iaload, 1) := by decide +kernel
theorem dX4_read_66 : decode cX4_read 66 = .ok (.aload_n 0, 1) := by decide +kernel
theorem dX4_read_67 : decode cX4_read 67 = .ok (.getfield 23, 3) := by decide +kernel
theorem dX4_read_70 : decode cX4_read 70 = .ok (.iconst 3, 1) := by decide +kernel
theorem dX4_read_71 : decode cX4_read 71 = .ok (.iload_n 3, 1) := by decide +kernel
theorem dX4_read_72 : decode cX4_read 72 = .ok (.imul, 1) := by decide +kernel
theorem dX4_read_73 : decode cX4_read 73 = .ok (.iconst 2, 1) := by decide +kernel
theorem dX4_read_74 : decode cX4_read 74 = .ok (.iadd, 1) := by decide +kernel
theorem dX4_read_75 : decode cX4_read 75 = .ok (.iaload, 1) := by decide +kernel
theorem dX4_read_76 : decode cX4_read 76 = .ok (.invokevirtual 118, 3) := by decide +kernel
theorem dX4_read_79 : decode cX4_read 79 = .ok (.iinc 3 1, 3) := by decide +kernel
theorem dX4_read_82 : decode cX4_read 82 = .ok (.goto (-41), 3) := by decide +kernel
theorem dX4_read_85 : decode cX4_read 85 = .ok (.iload_n 2, 1) := by decide +kernel
theorem dX4_read_86 : decode cX4_read 86 = .ok (.ireturn, 1) := by decide +kernel
end
section
/-- the words that every method of ours is given -/
def GW : List Cond := lw_tbl.filter goodWord
theorem gwm {w : Cond} (h : w ∈ tables_1) (g : goodWord w = true) : w ∈ GW := List.mem_filter.mpr ⟨List.mem_append_right _ h, g⟩
theorem gwp {w : Cond} (h : w ∈ k2_sels lw_privs) (g : goodWord w = true) : w ∈ GW := List.mem_filter.mpr ⟨List.mem_append_left _ h, g⟩
theorem gw_good : GoodIn GW GW := fun w h => ⟨h, good_of_word (List.mem_filter.mp h).2⟩
theorem gw_tbl : ∀ w ∈ GW, w ∈ lw_tbl := fun _ h => (List.mem_filter.mp h).1
theorem in_t1 {w : Cond} {i : Nat} (h0 : tables_1_1[i]? = some w) (g : goodWord w = true) : w ∈ GW := gwm (have h := List.mem_of_getElem? h0; List.mem_append_left _ h) g
theorem in_t2 {w : Cond} {i : Nat} (h0 : tables_1_2[i]? = some w) (g : goodWord w = true) : w ∈ GW := gwm (have h := List.mem_of_getElem? h0; List.mem_append_right _ (List.mem_append_left _ h)) g
theorem in_t3 {w : Cond} {i : Nat} (h0 : tables_1_3[i]? = some w) (g : goodWord w = true) : w ∈ GW := gwm (have h := List.mem_of_getElem? h0; List.mem_append_right _ (List.mem_append_right _ (List.mem_append_left _ h))) g
theorem in_t4 {w : Cond} {i : Nat} (h0 : tables_1_4[i]? = some w) (g : goodWord w = true) : w ∈ GW := gwm (have h := List.mem_of_getElem? h0; List.mem_append_right _ (List.mem_append_right _ (List.mem_append_right _ (h)))) g
theorem in_p1 {q : MethodName × Nat} {i : Nat} (h0 : lw_privs_1[i]? = some q) : Cond.selects q.1.cls q.1 q.1 ∈ GW := gwp (List.mem_map.mpr ⟨q, (have h := List.mem_of_getElem? h0; List.mem_append_left _ h), rfl⟩) rfl
theorem in_p2 {q : MethodName × Nat} {i : Nat} (h0 : lw_privs_2[i]? = some q) : Cond.selects q.1.cls q.1 q.1 ∈ GW := gwp (List.mem_map.mpr ⟨q, (have h := List.mem_of_getElem? h0; List.mem_append_right _ (List.mem_append_left _ h)), rfl⟩) rfl
theorem in_p3 {q : MethodName × Nat} {i : Nat} (h0 : lw_privs_3[i]? = some q) : Cond.selects q.1.cls q.1 q.1 ∈ GW := gwp (List.mem_map.mpr ⟨q, (have h := List.mem_of_getElem? h0; List.mem_append_right _ (List.mem_append_right _ (h))), rfl⟩) rfl
theorem cl_L_7 : Cond.classLink RL 7 RX3 ∈ GW := in_t1 (i := 8) rfl rfl
theorem ins_X3 : Cond.instantiable RX3 4 ∈ GW := in_t1 (i := 9) rfl rfl
theorem ini_X3 : Cond.initialized RX3 ∈ GW := in_t1 (i := 1) rfl rfl
theorem cl_L_10 : Cond.classLink RL 10 RX4 ∈ GW := in_t3 (i := 62) rfl rfl
theorem ins_X4 : Cond.instantiable RX4 12 ∈ GW := in_t3 (i := 63) rfl rfl
theorem ini_X4 : Cond.initialized RX4 ∈ GW := in_t1 (i := 5) rfl rfl
theorem ml_L_9 : Cond.methodLink RL 9 yX3_init ∈ GW := in_t1 (i := 10) rfl rfl
theorem im_X3_init : Cond.instanceMethod yX3_init ∈ GW := in_t1 (i := 11) rfl rfl
theorem cd_X3_init : Cond.code yX3_init cX3_init 2 none ∈ GW := in_t1 (i := 12) rfl rfl
theorem ml_X3_1 : Cond.methodLink RX3 1 objectInit ∈ GW := in_t1 (i := 13) rfl rfl
theorem im_objectInit : Cond.instanceMethod objectInit ∈ GW := in_t1 (i := 14) rfl rfl
theorem cd_objectInit : Cond.code objectInit ⟨#[0xb1]⟩ 1 none ∈ GW := in_t1 (i := 15) rfl rfl
theorem cl_X3_7 : Cond.classLink RX3 7 RX0 ∈ GW := in_t1 (i := 16) rfl rfl
theorem ins_X0 : Cond.instantiable RX0 12 ∈ GW := in_t1 (i := 17) rfl rfl
theorem ini_X0 : Cond.initialized RX0 ∈ GW := in_t1 (i := 2) rfl rfl
theorem fl_X3_10 : Cond.fieldLink RX3 10 "PantographArm" "now" "LPantographArm$Desk;" ∈ GW := in_t1 (i := 168) rfl rfl
theorem fl_X3_16 : Cond.fieldLink RX3 16 "PantographArm" "past" "[LPantographArm$Desk;" ∈ GW := in_t1 (i := 169) rfl rfl
theorem fl_X3_20 : Cond.fieldLink RX3 20 "PantographArm" "states" "I" ∈ GW := in_t1 (i := 170) rfl rfl
theorem cl_X3_24 : Cond.classLink RX3 24 RX2 ∈ GW := in_t1 (i := 129) rfl rfl
theorem ins_X2 : Cond.instantiable RX2 9 ∈ GW := in_t1 (i := 130) rfl rfl
theorem ini_X2 : Cond.initialized RX2 ∈ GW := in_t1 (i := 4) rfl rfl
theorem fl_X3_27 : Cond.fieldLink RX3 27 "PantographArm" "text" "LPantographArm$PointText;" ∈ GW := in_t1 (i := 171) rfl rfl
theorem ml_X3_9 : Cond.methodLink RX3 9 yX0_init ∈ GW := in_t1 (i := 18) rfl rfl
theorem im_X0_init : Cond.instanceMethod yX0_init ∈ GW := in_t1 (i := 19) rfl rfl
theorem cd_X0_init : Cond.code yX0_init cX0_init 2 none ∈ GW := in_t1 (i := 20) rfl rfl
theorem ml_X0_3 : Cond.methodLink RX0 3 objectInit ∈ GW := in_t1 (i := 21) rfl rfl
theorem fl_X0_9 : Cond.fieldLink RX0 9 "PantographArm$Desk" "a" "I" ∈ GW := in_t1 (i := 81) rfl rfl
theorem fl_X0_15 : Cond.fieldLink RX0 15 "PantographArm$Desk" "b" "I" ∈ GW := in_t1 (i := 83) rfl rfl
theorem fl_X0_18 : Cond.fieldLink RX0 18 "PantographArm$Desk" "pivotX" "I" ∈ GW := in_t1 (i := 85) rfl rfl
theorem fl_X0_21 : Cond.fieldLink RX0 21 "PantographArm$Desk" "pivotY" "I" ∈ GW := in_t1 (i := 87) rfl rfl
theorem ac__int : Cond.arrayClass .int ∈ GW := in_t1 (i := 79) rfl rfl
theorem fl_X0_28 : Cond.fieldLink RX0 28 "PantographArm$Desk" "settings" "[I" ∈ GW := in_t1 (i := 89) rfl rfl
theorem fl_X0_31 : Cond.fieldLink RX0 31 "PantographArm$Desk" "wear" "I" ∈ GW := in_t1 (i := 90) rfl rfl
theorem fl_X0_34 : Cond.fieldLink RX0 34 "PantographArm$Desk" "sharpenings" "I" ∈ GW := in_t1 (i := 92) rfl rfl
theorem fl_X0_37 : Cond.fieldLink RX0 37 "PantographArm$Desk" "drawnLines" "I" ∈ GW := in_t1 (i := 94) rfl rfl
theorem fl_X0_40 : Cond.fieldLink RX0 40 "PantographArm$Desk" "drawnLength" "I" ∈ GW := in_t1 (i := 96) rfl rfl
theorem fl_X0_43 : Cond.fieldLink RX0 43 "PantographArm$Desk" "leftOut" "I" ∈ GW := in_t1 (i := 98) rfl rfl
theorem cl_X0_46 : Cond.classLink RX0 46 RX1 ∈ GW := in_t1 (i := 24) rfl rfl
theorem fl_X0_48 : Cond.fieldLink RX0 48 "PantographArm$Desk" "drawings" "[LPantographArm$Drawing;" ∈ GW := in_t1 (i := 100) rfl rfl
theorem fl_X0_52 : Cond.fieldLink RX0 52 "PantographArm$Desk" "size" "I" ∈ GW := in_t1 (i := 101) rfl rfl
theorem ins_X1 : Cond.instantiable RX1 11 ∈ GW := in_t1 (i := 26) rfl rfl
theorem ini_X1 : Cond.initialized RX1 ∈ GW := in_t1 (i := 3) rfl rfl
theorem ml_X0_55 : Cond.methodLink RX0 55 yX1_init ∈ GW := in_t1 (i := 27) rfl rfl
theorem im_X1_init : Cond.instanceMethod yX1_init ∈ GW := in_t1 (i := 28) rfl rfl
theorem cd_X1_init : Cond.code yX1_init cX1_init 1 none ∈ GW := in_t1 (i := 29) rfl rfl
theorem ml_X1_3 : Cond.methodLink RX1 3 objectInit ∈ GW := in_t1 (i := 30) rfl rfl
theorem fl_X1_9 : Cond.fieldLink RX1 9 "PantographArm$Drawing" "parent" "I" ∈ GW := in_t1 (i := 31) rfl rfl
theorem fl_X1_15 : Cond.fieldLink RX1 15 "PantographArm$Drawing" "scale" "J" ∈ GW := in_t1 (i := 34) rfl rfl
theorem fl_X1_19 : Cond.fieldLink RX1 19 "PantographArm$Drawing" "parts" "J" ∈ GW := in_t1 (i := 37) rfl rfl
theorem fl_X1_22 : Cond.fieldLink RX1 22 "PantographArm$Drawing" "signX" "I" ∈ GW := in_t1 (i := 40) rfl rfl
theorem fl_X1_25 : Cond.fieldLink RX1 25 "PantographArm$Drawing" "signY" "I" ∈ GW := in_t1 (i := 43) rfl rfl
theorem fl_X1_28 : Cond.fieldLink RX1 28 "PantographArm$Drawing" "shiftX" "J" ∈ GW := in_t1 (i := 46) rfl rfl
theorem fl_X1_31 : Cond.fieldLink RX1 31 "PantographArm$Drawing" "shiftY" "J" ∈ GW := in_t1 (i := 48) rfl rfl
theorem fl_X1_34 : Cond.fieldLink RX1 34 "PantographArm$Drawing" "size" "I" ∈ GW := in_t1 (i := 50) rfl rfl
theorem ac__long : Cond.arrayClass .long ∈ GW := in_t1 (i := 80) rfl rfl
theorem fl_X1_37 : Cond.fieldLink RX1 37 "PantographArm$Drawing" "xs" "[J" ∈ GW := in_t1 (i := 53) rfl rfl
theorem fl_X1_41 : Cond.fieldLink RX1 41 "PantographArm$Drawing" "ys" "[J" ∈ GW := in_t1 (i := 54) rfl rfl
theorem fl_X1_44 : Cond.fieldLink RX1 44 "PantographArm$Drawing" "lines" "[I" ∈ GW := in_t1 (i := 55) rfl rfl
theorem ml_X3_26 : Cond.methodLink RX3 26 yX2_init ∈ GW := in_t1 (i := 131) rfl rfl
theorem im_X2_init : Cond.instanceMethod yX2_init ∈ GW := in_t1 (i := 132) rfl rfl
theorem cd_X2_init : Cond.code yX2_init cX2_init 1 none ∈ GW := in_t1 (i := 133) rfl rfl
theorem ml_X2_3 : Cond.methodLink RX2 3 objectInit ∈ GW := in_t1 (i := 134) rfl rfl
theorem ac__char : Cond.arrayClass .char ∈ GW := in_t1 (i := 166) rfl rfl
theorem fl_X2_9 : Cond.fieldLink RX2 9 "PantographArm$PointText" "characters" "[C" ∈ GW := in_t1 (i := 135) rfl rfl
theorem fl_X2_15 : Cond.fieldLink RX2 15 "PantographArm$PointText" "length" "I" ∈ GW := in_t1 (i := 136) rfl rfl
theorem fl_X2_19 : Cond.fieldLink RX2 19 "PantographArm$PointText" "at" "I" ∈ GW := in_t1 (i := 138) rfl rfl
theorem fl_X2_22 : Cond.fieldLink RX2 22 "PantographArm$PointText" "faultAt" "I" ∈ GW := in_t1 (i := 139) rfl rfl
theorem fl_X2_25 : Cond.fieldLink RX2 25 "PantographArm$PointText" "reason" "I" ∈ GW := in_t1 (i := 141) rfl rfl
theorem fl_X2_28 : Cond.fieldLink RX2 28 "PantographArm$PointText" "xs" "[I" ∈ GW := in_t1 (i := 143) rfl rfl
theorem fl_X2_32 : Cond.fieldLink RX2 32 "PantographArm$PointText" "ys" "[I" ∈ GW := in_t1 (i := 144) rfl rfl
theorem ac__boolean : Cond.arrayClass .boolean ∈ GW := in_t1 (i := 167) rfl rfl
theorem fl_X2_35 : Cond.fieldLink RX2 35 "PantographArm$PointText" "joined" "[Z" ∈ GW := in_t1 (i := 145) rfl rfl
theorem fl_X2_39 : Cond.fieldLink RX2 39 "PantographArm$PointText" "size" "I" ∈ GW := in_t1 (i := 146) rfl rfl
theorem ml_L_12 : Cond.methodLink RL 12 yX4_init ∈ GW := in_t3 (i := 64) rfl rfl
theorem im_X4_init : Cond.instanceMethod yX4_init ∈ GW := in_t3 (i := 65) rfl rfl
theorem cd_X4_init : Cond.code yX4_init cX4_init 1 none ∈ GW := in_t3 (i := 66) rfl rfl
theorem ml_X4_1 : Cond.methodLink RX4 1 objectInit ∈ GW := in_t3 (i := 67) rfl rfl
theorem fl_X4_7 : Cond.fieldLink RX4 7 "PantographArmModel" "m" "[J" ∈ GW := in_t3 (i := 70) rfl rfl
theorem fl_X4_13 : Cond.fieldLink RX4 13 "PantographArmModel" "spare" "[J" ∈ GW := in_t3 (i := 71) rfl rfl
theorem fl_X4_16 : Cond.fieldLink RX4 16 "PantographArmModel" "saved" "[J" ∈ GW := in_t3 (i := 72) rfl rfl
theorem fl_X4_19 : Cond.fieldLink RX4 19 "PantographArmModel" "text" "[I" ∈ GW := in_t3 (i := 74) rfl rfl
theorem fl_X4_23 : Cond.fieldLink RX4 23 "PantographArmModel" "read" "[I" ∈ GW := in_t3 (i := 81) rfl rfl
theorem kl_X4_26 : Cond.constantLong RX4 26 (1000) ∈ GW := in_t3 (i := 68) rfl rfl
theorem kl_X4_28 : Cond.constantLong RX4 28 (100) ∈ GW := in_t3 (i := 69) rfl rfl
theorem ml_L_13 : Cond.methodLink RL 13 yX3_arm ∈ GW := in_t1 (i := 181) rfl rfl
theorem im_X3_arm : Cond.instanceMethod yX3_arm ∈ GW := in_t1 (i := 182) rfl rfl
theorem se_X3_arm : Cond.selects RX3 yX3_arm yX3_arm ∈ GW := in_t1 (i := 183) rfl rfl
theorem cd_X3_arm : Cond.code yX3_arm cX3_arm 4 (some .int) ∈ GW := in_t1 (i := 184) rfl rfl
theorem kc_X3_35 : Cond.constant RX3 35 (-2000000001) ∈ GW := in_t1 (i := 188) rfl rfl
theorem ml_X3_31 : Cond.methodLink RX3 31 yX3_isWithin ∈ GW := in_t1 (i := 185) rfl rfl
theorem st_X3_isWithin : Cond.static yX3_isWithin ∈ GW := in_t1 (i := 186) rfl rfl
theorem cd_X3_isWithin : Cond.code yX3_isWithin cX3_isWithin 3 (some .boolean) ∈ GW := in_t1 (i := 187) rfl rfl
theorem ml_X3_42 : Cond.methodLink RX3 42 yX3_remember ∈ GW := in_t1 (i := 189) rfl rfl
theorem im_X3_remember : Cond.instanceMethod yX3_remember ∈ GW := in_t1 (i := 191) rfl rfl
theorem se_X3_remember : Cond.selects RX3 yX3_remember yX3_remember ∈ GW := in_p1 (i := 0) rfl
theorem cd_X3_remember : Cond.code yX3_remember cX3_remember 1 none ∈ GW := in_t1 (i := 192) rfl rfl
theorem ml_X3_229 : Cond.methodLink RX3 229 yX3_dropOldest ∈ GW := in_t1 (i := 193) rfl rfl
theorem im_X3_dropOldest : Cond.instanceMethod yX3_dropOldest ∈ GW := in_t1 (i := 195) rfl rfl
theorem se_X3_dropOldest : Cond.selects RX3 yX3_dropOldest yX3_dropOldest ∈ GW := in_p1 (i := 1) rfl
theorem cd_X3_dropOldest : Cond.code yX3_dropOldest cX3_dropOldest 3 none ∈ GW := in_t1 (i := 196) rfl rfl
theorem ml_X3_232 : Cond.methodLink RX3 232 yX0_takeFrom ∈ GW := in_t1 (i := 197) rfl rfl
theorem im_X0_takeFrom : Cond.instanceMethod yX0_takeFrom ∈ GW := in_t1 (i := 198) rfl rfl
theorem se_X0_takeFrom : Cond.selects RX0 yX0_takeFrom yX0_takeFrom ∈ GW := in_t1 (i := 199) rfl rfl
theorem cd_X0_takeFrom : Cond.code yX0_takeFrom cX0_takeFrom 5 none ∈ GW := in_t1 (i := 200) rfl rfl
theorem ml_X0_56 : Cond.methodLink RX0 56 yX0_setting ∈ GW := in_t1 (i := 201) rfl rfl
theorem im_X0_setting : Cond.instanceMethod yX0_setting ∈ GW := in_t1 (i := 202) rfl rfl
theorem se_X0_setting : Cond.selects RX0 yX0_setting yX0_setting ∈ GW := in_t1 (i := 203) rfl rfl
theorem cd_X0_setting : Cond.code yX0_setting cX0_setting 2 (some .int) ∈ GW := in_t1 (i := 204) rfl rfl
theorem ml_X0_60 : Cond.methodLink RX0 60 yX0_find ∈ GW := in_t1 (i := 205) rfl rfl
theorem im_X0_find : Cond.instanceMethod yX0_find ∈ GW := in_t1 (i := 206) rfl rfl
theorem se_X0_find : Cond.selects RX0 yX0_find yX0_find ∈ GW := in_t1 (i := 207) rfl rfl
theorem cd_X0_find : Cond.code yX0_find cX0_find 2 (some (.object "PantographArm$Drawing")) ∈ GW := in_t1 (i := 208) rfl rfl
theorem ml_X0_64 : Cond.methodLink RX0 64 yX1_takeFrom ∈ GW := in_t1 (i := 209) rfl rfl
theorem im_X1_takeFrom : Cond.instanceMethod yX1_takeFrom ∈ GW := in_t1 (i := 210) rfl rfl
theorem se_X1_takeFrom : Cond.selects RX1 yX1_takeFrom yX1_takeFrom ∈ GW := in_t1 (i := 211) rfl rfl
theorem cd_X1_takeFrom : Cond.code yX1_takeFrom cX1_takeFrom 3 none ∈ GW := in_t1 (i := 212) rfl rfl
theorem ml_X1_48 : Cond.methodLink RX1 48 yX1_begin ∈ GW := in_t1 (i := 213) rfl rfl
theorem im_X1_begin : Cond.instanceMethod yX1_begin ∈ GW := in_t1 (i := 214) rfl rfl
theorem se_X1_begin : Cond.selects RX1 yX1_begin yX1_begin ∈ GW := in_t1 (i := 215) rfl rfl
theorem cd_X1_begin : Cond.code yX1_begin cX1_begin 6 none ∈ GW := in_t1 (i := 216) rfl rfl
theorem ml_X1_52 : Cond.methodLink RX1 52 yX1_x ∈ GW := in_t1 (i := 217) rfl rfl
theorem im_X1_x : Cond.instanceMethod yX1_x ∈ GW := in_t1 (i := 218) rfl rfl
theorem se_X1_x : Cond.selects RX1 yX1_x yX1_x ∈ GW := in_t1 (i := 219) rfl rfl
theorem cd_X1_x : Cond.code yX1_x cX1_x 2 (some .long) ∈ GW := in_t1 (i := 220) rfl rfl
theorem ml_X1_67 : Cond.methodLink RX1 67 yX1_has ∈ GW := in_t1 (i := 221) rfl rfl
theorem im_X1_has : Cond.instanceMethod yX1_has ∈ GW := in_t1 (i := 222) rfl rfl
theorem se_X1_has : Cond.selects RX1 yX1_has yX1_has ∈ GW := in_t1 (i := 223) rfl rfl
theorem cd_X1_has : Cond.code yX1_has cX1_has 2 (some .boolean) ∈ GW := in_t1 (i := 224) rfl rfl
theorem ml_X1_56 : Cond.methodLink RX1 56 yX1_y ∈ GW := in_t1 (i := 225) rfl rfl
theorem im_X1_y : Cond.instanceMethod yX1_y ∈ GW := in_t1 (i := 226) rfl rfl
theorem se_X1_y : Cond.selects RX1 yX1_y yX1_y ∈ GW := in_t1 (i := 227) rfl rfl
theorem cd_X1_y : Cond.code yX1_y cX1_y 2 (some .long) ∈ GW := in_t1 (i := 228) rfl rfl
theorem ml_X1_59 : Cond.methodLink RX1 59 yX1_line ∈ GW := in_t1 (i := 229) rfl rfl
theorem im_X1_line : Cond.instanceMethod yX1_line ∈ GW := in_t1 (i := 230) rfl rfl
theorem se_X1_line : Cond.selects RX1 yX1_line yX1_line ∈ GW := in_t1 (i := 231) rfl rfl
theorem cd_X1_line : Cond.code yX1_line cX1_line 2 (some .int) ∈ GW := in_t1 (i := 232) rfl rfl
theorem ml_X1_63 : Cond.methodLink RX1 63 yX1_add ∈ GW := in_t1 (i := 233) rfl rfl
theorem im_X1_add : Cond.instanceMethod yX1_add ∈ GW := in_t1 (i := 234) rfl rfl
theorem se_X1_add : Cond.selects RX1 yX1_add yX1_add ∈ GW := in_t1 (i := 235) rfl rfl
theorem cd_X1_add : Cond.code yX1_add cX1_add 6 none ∈ GW := in_t1 (i := 236) rfl rfl
theorem ml_L_17 : Cond.methodLink RL 17 yX4_arm ∈ GW := in_t3 (i := 107) rfl rfl
theorem im_X4_arm : Cond.instanceMethod yX4_arm ∈ GW := in_t3 (i := 108) rfl rfl
theorem se_X4_arm : Cond.selects RX4 yX4_arm yX4_arm ∈ GW := in_t3 (i := 109) rfl rfl
theorem cd_X4_arm : Cond.code yX4_arm cX4_arm 4 (some .int) ∈ GW := in_t3 (i := 110) rfl rfl
theorem kc_X4_61 : Cond.constant RX4 61 (-2000000001) ∈ GW := in_t3 (i := 114) rfl rfl
theorem ml_X4_57 : Cond.methodLink RX4 57 yX4_in ∈ GW := in_t3 (i := 111) rfl rfl
theorem st_X4_in : Cond.static yX4_in ∈ GW := in_t3 (i := 112) rfl rfl
theorem cd_X4_in : Cond.code yX4_in cX4_in 3 (some .boolean) ∈ GW := in_t3 (i := 113) rfl rfl
theorem ml_X4_62 : Cond.methodLink RX4 62 yX4_keep ∈ GW := in_t3 (i := 115) rfl rfl
theorem im_X4_keep : Cond.instanceMethod yX4_keep ∈ GW := in_t3 (i := 117) rfl rfl
theorem se_X4_keep : Cond.selects RX4 yX4_keep yX4_keep ∈ GW := in_p1 (i := 9) rfl
theorem cd_X4_keep : Cond.code yX4_keep cX4_keep 2 none ∈ GW := in_t3 (i := 118) rfl rfl
theorem fl_X4_34 : Cond.fieldLink RX4 34 "PantographArmModel" "savedCount" "I" ∈ GW := in_t3 (i := 73) rfl rfl
theorem ml_X4_38 : Cond.methodLink RX4 38 yX4_bring ∈ GW := in_t3 (i := 119) rfl rfl
theorem st_X4_bring : Cond.static yX4_bring ∈ GW := in_t3 (i := 120) rfl rfl
theorem cd_X4_bring : Cond.code yX4_bring cX4_bring 5 none ∈ GW := in_t3 (i := 121) rfl rfl
theorem ml_X4_65 : Cond.methodLink RX4 65 yX4_of ∈ GW := in_t3 (i := 122) rfl rfl
theorem im_X4_of : Cond.instanceMethod yX4_of ∈ GW := in_t3 (i := 124) rfl rfl
theorem se_X4_of : Cond.selects RX4 yX4_of yX4_of ∈ GW := in_p1 (i := 10) rfl
theorem cd_X4_of : Cond.code yX4_of cX4_of 2 (some .int) ∈ GW := in_t3 (i := 125) rfl rfl
theorem ml_L_18 : Cond.methodLink RL 18 yX3_pivot ∈ GW := in_t1 (i := 237) rfl rfl
theorem im_X3_pivot : Cond.instanceMethod yX3_pivot ∈ GW := in_t1 (i := 238) rfl rfl
theorem se_X3_pivot : Cond.selects RX3 yX3_pivot yX3_pivot ∈ GW := in_t1 (i := 239) rfl rfl
theorem cd_X3_pivot : Cond.code yX3_pivot cX3_pivot 4 (some .int) ∈ GW := in_t2 (i := 0) rfl rfl
theorem ml_L_21 : Cond.methodLink RL 21 yX4_pivot ∈ GW := in_t3 (i := 126) rfl rfl
theorem im_X4_pivot : Cond.instanceMethod yX4_pivot ∈ GW := in_t3 (i := 127) rfl rfl
theorem se_X4_pivot : Cond.selects RX4 yX4_pivot yX4_pivot ∈ GW := in_t3 (i := 128) rfl rfl
theorem cd_X4_pivot : Cond.code yX4_pivot cX4_pivot 4 (some .int) ∈ GW := in_t3 (i := 129) rfl rfl
theorem ml_L_22 : Cond.methodLink RL 22 yX3_set ∈ GW := in_t2 (i := 1) rfl rfl
theorem im_X3_set : Cond.instanceMethod yX3_set ∈ GW := in_t2 (i := 2) rfl rfl
theorem se_X3_set : Cond.selects RX3 yX3_set yX3_set ∈ GW := in_t2 (i := 3) rfl rfl
theorem cd_X3_set : Cond.code yX3_set cX3_set 4 (some .int) ∈ GW := in_t2 (i := 4) rfl rfl
theorem fl_X3_51 : Cond.fieldLink RX3 51 "PantographArm" "LEAST_SETTING" "[I" ∈ GW := in_t2 (i := 5) rfl rfl
theorem fl_X3_55 : Cond.fieldLink RX3 55 "PantographArm" "MOST_SETTING" "[I" ∈ GW := in_t2 (i := 7) rfl rfl
theorem ml_X3_58 : Cond.methodLink RX3 58 yX0_setting ∈ GW := in_t2 (i := 9) rfl rfl
theorem ml_X3_62 : Cond.methodLink RX3 62 yX0_changeSetting ∈ GW := in_t2 (i := 10) rfl rfl
theorem im_X0_changeSetting : Cond.instanceMethod yX0_changeSetting ∈ GW := in_t2 (i := 11) rfl rfl
theorem se_X0_changeSetting : Cond.selects RX0 yX0_changeSetting yX0_changeSetting ∈ GW := in_t2 (i := 12) rfl rfl
theorem cd_X0_changeSetting : Cond.code yX0_changeSetting cX0_changeSetting 3 none ∈ GW := in_t2 (i := 13) rfl rfl
theorem ml_L_25 : Cond.methodLink RL 25 yX4_set ∈ GW := in_t3 (i := 130) rfl rfl
theorem im_X4_set : Cond.instanceMethod yX4_set ∈ GW := in_t3 (i := 131) rfl rfl
theorem se_X4_set : Cond.selects RX4 yX4_set yX4_set ∈ GW := in_t3 (i := 132) rfl rfl
theorem cd_X4_set : Cond.code yX4_set cX4_set 4 (some .int) ∈ GW := in_t3 (i := 133) rfl rfl
theorem ml_X4_69 : Cond.methodLink RX4 69 yX4_isSetting ∈ GW := in_t3 (i := 134) rfl rfl
theorem st_X4_isSetting : Cond.static yX4_isSetting ∈ GW := in_t3 (i := 135) rfl rfl
theorem cd_X4_isSetting : Cond.code yX4_isSetting cX4_isSetting 2 (some .boolean) ∈ GW := in_t3 (i := 136) rfl rfl
theorem ml_L_26 : Cond.methodLink RL 26 yX3_count ∈ GW := in_t2 (i := 14) rfl rfl
theorem im_X3_count : Cond.instanceMethod yX3_count ∈ GW := in_t2 (i := 15) rfl rfl
theorem se_X3_count : Cond.selects RX3 yX3_count yX3_count ∈ GW := in_t2 (i := 16) rfl rfl
theorem cd_X3_count : Cond.code yX3_count cX3_count 2 (some .int) ∈ GW := in_t2 (i := 17) rfl rfl
theorem ml_X3_72 : Cond.methodLink RX3 72 yX0_isBlunt ∈ GW := in_t2 (i := 18) rfl rfl
theorem im_X0_isBlunt : Cond.instanceMethod yX0_isBlunt ∈ GW := in_t2 (i := 19) rfl rfl
theorem se_X0_isBlunt : Cond.selects RX0 yX0_isBlunt yX0_isBlunt ∈ GW := in_t2 (i := 20) rfl rfl
theorem cd_X0_isBlunt : Cond.code yX0_isBlunt cX0_isBlunt 1 (some .boolean) ∈ GW := in_t2 (i := 21) rfl rfl
theorem ml_X0_103 : Cond.methodLink RX0 103 yX0_wornWidth ∈ GW := in_t2 (i := 22) rfl rfl
theorem im_X0_wornWidth : Cond.instanceMethod yX0_wornWidth ∈ GW := in_t2 (i := 23) rfl rfl
theorem se_X0_wornWidth : Cond.selects RX0 yX0_wornWidth yX0_wornWidth ∈ GW := in_t2 (i := 24) rfl rfl
theorem cd_X0_wornWidth : Cond.code yX0_wornWidth cX0_wornWidth 1 (some .int) ∈ GW := in_t2 (i := 25) rfl rfl
theorem st_X3_quotient : Cond.static yX3_quotient ∈ GW := in_t2 (i := 27) rfl rfl
theorem cd_X3_quotient : Cond.code yX3_quotient cX3_quotient 4 (some .long) ∈ GW := in_t2 (i := 28) rfl rfl
theorem ml_L_30 : Cond.methodLink RL 30 yX4_count ∈ GW := in_t3 (i := 137) rfl rfl
theorem im_X4_count : Cond.instanceMethod yX4_count ∈ GW := in_t3 (i := 138) rfl rfl
theorem se_X4_count : Cond.selects RX4 yX4_count yX4_count ∈ GW := in_t3 (i := 139) rfl rfl
theorem cd_X4_count : Cond.code yX4_count cX4_count 2 (some .int) ∈ GW := in_t3 (i := 140) rfl rfl
theorem fl_X4_79 : Cond.fieldLink RX4 79 "PantographArmModel" "textLength" "I" ∈ GW := in_t3 (i := 75) rfl rfl
theorem ml_X4_75 : Cond.methodLink RX4 75 yX4_isBlunt ∈ GW := in_t3 (i := 141) rfl rfl
theorem im_X4_isBlunt : Cond.instanceMethod yX4_isBlunt ∈ GW := in_t3 (i := 143) rfl rfl
theorem se_X4_isBlunt : Cond.selects RX4 yX4_isBlunt yX4_isBlunt ∈ GW := in_p1 (i := 11) rfl
theorem cd_X4_isBlunt : Cond.code yX4_isBlunt cX4_isBlunt 1 (some .boolean) ∈ GW := in_t3 (i := 144) rfl rfl
theorem kl_X4_73 : Cond.constantLong RX4 73 (9) ∈ GW := in_t3 (i := 145) rfl rfl
theorem ml_L_31 : Cond.methodLink RL 31 yX3_sharpen ∈ GW := in_t2 (i := 29) rfl rfl
theorem im_X3_sharpen : Cond.instanceMethod yX3_sharpen ∈ GW := in_t2 (i := 30) rfl rfl
theorem se_X3_sharpen : Cond.selects RX3 yX3_sharpen yX3_sharpen ∈ GW := in_t2 (i := 31) rfl rfl
theorem cd_X3_sharpen : Cond.code yX3_sharpen cX3_sharpen 2 (some .int) ∈ GW := in_t2 (i := 32) rfl rfl
theorem kc_X3_91 : Cond.constant RX3 91 (-2000000003) ∈ GW := in_t2 (i := 33) rfl rfl
theorem ml_L_35 : Cond.methodLink RL 35 yX4_sharpen ∈ GW := in_t3 (i := 146) rfl rfl
theorem im_X4_sharpen : Cond.instanceMethod yX4_sharpen ∈ GW := in_t3 (i := 147) rfl rfl
theorem se_X4_sharpen : Cond.selects RX4 yX4_sharpen yX4_sharpen ∈ GW := in_t3 (i := 148) rfl rfl
theorem cd_X4_sharpen : Cond.code yX4_sharpen cX4_sharpen 2 (some .int) ∈ GW := in_t3 (i := 149) rfl rfl
theorem kl_X4_82 : Cond.constantLong RX4 82 (10) ∈ GW := in_t3 (i := 150) rfl rfl
theorem kc_X4_84 : Cond.constant RX4 84 (-2000000003) ∈ GW := in_t3 (i := 151) rfl rfl
theorem ml_L_36 : Cond.methodLink RL 36 yX3_draw ∈ GW := in_t2 (i := 34) rfl rfl
theorem im_X3_draw : Cond.instanceMethod yX3_draw ∈ GW := in_t2 (i := 35) rfl rfl
theorem se_X3_draw : Cond.selects RX3 yX3_draw yX3_draw ∈ GW := in_t2 (i := 36) rfl rfl
theorem cd_X3_draw : Cond.code yX3_draw cX3_draw 1 (some .int) ∈ GW := in_t2 (i := 37) rfl rfl
theorem ml_X3_92 : Cond.methodLink RX3 92 yX0_spare ∈ GW := in_t2 (i := 38) rfl rfl
theorem im_X0_spare : Cond.instanceMethod yX0_spare ∈ GW := in_t2 (i := 39) rfl rfl
theorem se_X0_spare : Cond.selects RX0 yX0_spare yX0_spare ∈ GW := in_t2 (i := 40) rfl rfl
theorem cd_X0_spare : Cond.code yX0_spare cX0_spare 1 (some (.object "PantographArm$Drawing")) ∈ GW := in_t2 (i := 41) rfl rfl
theorem ml_X3_96 : Cond.methodLink RX3 96 yX0_beginOriginal ∈ GW := in_t2 (i := 42) rfl rfl
theorem im_X0_beginOriginal : Cond.instanceMethod yX0_beginOriginal ∈ GW := in_t2 (i := 43) rfl rfl
theorem se_X0_beginOriginal : Cond.selects RX0 yX0_beginOriginal yX0_beginOriginal ∈ GW := in_t2 (i := 44) rfl rfl
theorem cd_X0_beginOriginal : Cond.code yX0_beginOriginal cX0_beginOriginal 2 (some .int) ∈ GW := in_t2 (i := 45) rfl rfl
theorem ml_X0_68 : Cond.methodLink RX0 68 yX0_spare ∈ GW := in_t2 (i := 46) rfl rfl
theorem ml_X0_72 : Cond.methodLink RX0 72 yX1_begin ∈ GW := in_t2 (i := 47) rfl rfl
theorem ml_L_39 : Cond.methodLink RL 39 yX4_draw ∈ GW := in_t3 (i := 152) rfl rfl
theorem im_X4_draw : Cond.instanceMethod yX4_draw ∈ GW := in_t3 (i := 153) rfl rfl
theorem se_X4_draw : Cond.selects RX4 yX4_draw yX4_draw ∈ GW := in_t3 (i := 154) rfl rfl
theorem cd_X4_draw : Cond.code yX4_draw cX4_draw 1 (some .int) ∈ GW := in_t3 (i := 155) rfl rfl
theorem kl_X4_98 : Cond.constantLong RX4 98 (6) ∈ GW := in_t3 (i := 156) rfl rfl
theorem ml_X4_100 : Cond.methodLink RX4 100 yX4_begins ∈ GW := in_t3 (i := 157) rfl rfl
theorem im_X4_begins : Cond.instanceMethod yX4_begins ∈ GW := in_t3 (i := 159) rfl rfl
theorem se_X4_begins : Cond.selects RX4 yX4_begins yX4_begins ∈ GW := in_p1 (i := 12) rfl
theorem cd_X4_begins : Cond.code yX4_begins cX4_begins 3 (some .int) ∈ GW := in_t3 (i := 160) rfl rfl
theorem kl_X4_96 : Cond.constantLong RX4 96 (-1) ∈ GW := in_t3 (i := 164) rfl rfl
theorem ml_X4_85 : Cond.methodLink RX4 85 yX4_head ∈ GW := in_t3 (i := 161) rfl rfl
theorem st_X4_head : Cond.static yX4_head ∈ GW := in_t3 (i := 162) rfl rfl
theorem cd_X4_head : Cond.code yX4_head cX4_head 2 (some .int) ∈ GW := in_t3 (i := 163) rfl rfl
theorem ml_L_40 : Cond.methodLink RL 40 yX3_point ∈ GW := in_t2 (i := 48) rfl rfl
theorem im_X3_point : Cond.instanceMethod yX3_point ∈ GW := in_t2 (i := 49) rfl rfl
theorem se_X3_point : Cond.selects RX3 yX3_point yX3_point ∈ GW := in_t2 (i := 50) rfl rfl
theorem cd_X3_point : Cond.code yX3_point cX3_point 6 (some .int) ∈ GW := in_t2 (i := 51) rfl rfl
theorem kc_X3_113 : Cond.constant RX3 113 (-2000000002) ∈ GW := in_t2 (i := 61) rfl rfl
theorem ml_X3_100 : Cond.methodLink RX3 100 yX0_find ∈ GW := in_t2 (i := 52) rfl rfl
theorem ml_X3_104 : Cond.methodLink RX3 104 yX1_isCopy ∈ GW := in_t2 (i := 53) rfl rfl
theorem im_X1_isCopy : Cond.instanceMethod yX1_isCopy ∈ GW := in_t2 (i := 54) rfl rfl
theorem se_X1_isCopy : Cond.selects RX1 yX1_isCopy yX1_isCopy ∈ GW := in_t2 (i := 55) rfl rfl
theorem cd_X1_isCopy : Cond.code yX1_isCopy cX1_isCopy 1 (some .boolean) ∈ GW := in_t2 (i := 56) rfl rfl
theorem ml_X3_109 : Cond.methodLink RX3 109 yX0_hasCopies ∈ GW := in_t2 (i := 57) rfl rfl
theorem im_X0_hasCopies : Cond.instanceMethod yX0_hasCopies ∈ GW := in_t2 (i := 58) rfl rfl
theorem se_X0_hasCopies : Cond.selects RX0 yX0_hasCopies yX0_hasCopies ∈ GW := in_t2 (i := 59) rfl rfl
theorem cd_X0_hasCopies : Cond.code yX0_hasCopies cX0_hasCopies 4 (some .boolean) ∈ GW := in_t2 (i := 60) rfl rfl
theorem ml_X3_114 : Cond.methodLink RX3 114 yX1_isFull ∈ GW := in_t2 (i := 62) rfl rfl
theorem im_X1_isFull : Cond.instanceMethod yX1_isFull ∈ GW := in_t2 (i := 63) rfl rfl
theorem se_X1_isFull : Cond.selects RX1 yX1_isFull yX1_isFull ∈ GW := in_t2 (i := 64) rfl rfl
theorem cd_X1_isFull : Cond.code yX1_isFull cX1_isFull 1 (some .boolean) ∈ GW := in_t2 (i := 65) rfl rfl
theorem ml_X3_117 : Cond.methodLink RX3 117 yX1_add ∈ GW := in_t2 (i := 66) rfl rfl
theorem ml_L_44 : Cond.methodLink RL 44 yX4_point ∈ GW := in_t3 (i := 165) rfl rfl
theorem im_X4_point : Cond.instanceMethod yX4_point ∈ GW := in_t3 (i := 166) rfl rfl
theorem se_X4_point : Cond.selects RX4 yX4_point yX4_point ∈ GW := in_t3 (i := 167) rfl rfl
theorem cd_X4_point : Cond.code yX4_point cX4_point 5 (some .int) ∈ GW := in_t3 (i := 168) rfl rfl
theorem kc_X4_117 : Cond.constant RX4 117 (-2000000002) ∈ GW := in_t3 (i := 177) rfl rfl
theorem ml_X4_89 : Cond.methodLink RX4 89 yX4_isDrawing ∈ GW := in_t3 (i := 169) rfl rfl
theorem im_X4_isDrawing : Cond.instanceMethod yX4_isDrawing ∈ GW := in_t3 (i := 171) rfl rfl
theorem se_X4_isDrawing : Cond.selects RX4 yX4_isDrawing yX4_isDrawing ∈ GW := in_p1 (i := 13) rfl
theorem cd_X4_isDrawing : Cond.code yX4_isDrawing cX4_isDrawing 2 (some .boolean) ∈ GW := in_t3 (i := 172) rfl rfl
theorem ml_X4_114 : Cond.methodLink RX4 114 yX4_isCopied ∈ GW := in_t3 (i := 173) rfl rfl
theorem im_X4_isCopied : Cond.instanceMethod yX4_isCopied ∈ GW := in_t3 (i := 175) rfl rfl
theorem se_X4_isCopied : Cond.selects RX4 yX4_isCopied yX4_isCopied ∈ GW := in_p1 (i := 14) rfl
theorem cd_X4_isCopied : Cond.code yX4_isCopied cX4_isCopied 4 (some .boolean) ∈ GW := in_t3 (i := 176) rfl rfl
theorem ml_X4_93 : Cond.methodLink RX4 93 yX4_points ∈ GW := in_t3 (i := 178) rfl rfl
theorem im_X4_points : Cond.instanceMethod yX4_points ∈ GW := in_t3 (i := 180) rfl rfl
theorem se_X4_points : Cond.selects RX4 yX4_points yX4_points ∈ GW := in_p1 (i := 15) rfl
theorem cd_X4_points : Cond.code yX4_points cX4_points 2 (some .int) ∈ GW := in_t3 (i := 181) rfl rfl
theorem ml_X4_118 : Cond.methodLink RX4 118 yX4_adds ∈ GW := in_t3 (i := 182) rfl rfl
theorem im_X4_adds : Cond.instanceMethod yX4_adds ∈ GW := in_t3 (i := 184) rfl rfl
theorem se_X4_adds : Cond.selects RX4 yX4_adds yX4_adds ∈ GW := in_p2 (i := 0) rfl
theorem cd_X4_adds : Cond.code yX4_adds cX4_adds 8 none ∈ GW := in_t3 (i := 185) rfl rfl
theorem ml_X4_104 : Cond.methodLink RX4 104 yX4_cellOf ∈ GW := in_t3 (i := 186) rfl rfl
theorem st_X4_cellOf : Cond.static yX4_cellOf ∈ GW := in_t3 (i := 187) rfl rfl
theorem cd_X4_cellOf : Cond.code yX4_cellOf cX4_cellOf 2 (some .int) ∈ GW := in_t3 (i := 188) rfl rfl
theorem ml_X4_111 : Cond.methodLink RX4 111 yX4_lengthTo ∈ GW := in_t3 (i := 189) rfl rfl
theorem im_X4_lengthTo : Cond.instanceMethod yX4_lengthTo ∈ GW := in_t3 (i := 191) rfl rfl
theorem se_X4_lengthTo : Cond.selects RX4 yX4_lengthTo yX4_lengthTo ∈ GW := in_p2 (i := 1) rfl
theorem cd_X4_lengthTo : Cond.code yX4_lengthTo cX4_lengthTo 9 (some .int) ∈ GW := in_t3 (i := 192) rfl rfl
theorem fl_X4_46 : Cond.fieldLink RX4 46 "PantographArmModel" "top" "J" ∈ GW := in_t3 (i := 76) rfl rfl
theorem fl_X4_50 : Cond.fieldLink RX4 50 "PantographArmModel" "low" "J" ∈ GW := in_t3 (i := 77) rfl rfl
theorem ml_X4_107 : Cond.methodLink RX4 107 yX4_plus ∈ GW := in_t3 (i := 193) rfl rfl
theorem im_X4_plus : Cond.instanceMethod yX4_plus ∈ GW := in_t3 (i := 195) rfl rfl
theorem se_X4_plus : Cond.selects RX4 yX4_plus yX4_plus ∈ GW := in_p2 (i := 2) rfl
theorem cd_X4_plus : Cond.code yX4_plus cX4_plus 13 none ∈ GW := in_t3 (i := 196) rfl rfl
theorem ml_X4_42 : Cond.methodLink RX4 42 yX4_divisor ∈ GW := in_t3 (i := 197) rfl rfl
theorem st_X4_divisor : Cond.static yX4_divisor ∈ GW := in_t3 (i := 198) rfl rfl
theorem cd_X4_divisor : Cond.code yX4_divisor cX4_divisor 10 (some .long) ∈ GW := in_t3 (i := 199) rfl rfl
theorem ml_X4_30 : Cond.methodLink RX4 30 yX4_size ∈ GW := in_t3 (i := 200) rfl rfl
theorem st_X4_size : Cond.static yX4_size ∈ GW := in_t3 (i := 201) rfl rfl
theorem cd_X4_size : Cond.code yX4_size cX4_size 2 (some .long) ∈ GW := in_t3 (i := 202) rfl rfl
theorem ml_X4_53 : Cond.methodLink RX4 53 yX4_reduce ∈ GW := in_t3 (i := 203) rfl rfl
theorem im_X4_reduce : Cond.instanceMethod yX4_reduce ∈ GW := in_t3 (i := 205) rfl rfl
theorem se_X4_reduce : Cond.selects RX4 yX4_reduce yX4_reduce ∈ GW := in_p2 (i := 3) rfl
theorem cd_X4_reduce : Cond.code yX4_reduce cX4_reduce 7 none ∈ GW := in_t3 (i := 206) rfl rfl
theorem ml_L_45 : Cond.methodLink RL 45 yX3_remove ∈ GW := in_t2 (i := 67) rfl rfl
theorem im_X3_remove : Cond.instanceMethod yX3_remove ∈ GW := in_t2 (i := 68) rfl rfl
theorem se_X3_remove : Cond.selects RX3 yX3_remove yX3_remove ∈ GW := in_t2 (i := 69) rfl rfl
theorem cd_X3_remove : Cond.code yX3_remove cX3_remove 2 (some .int) ∈ GW := in_t2 (i := 70) rfl rfl
theorem ml_X3_122 : Cond.methodLink RX3 122 yX0_takeAway ∈ GW := in_t2 (i := 71) rfl rfl
theorem im_X0_takeAway : Cond.instanceMethod yX0_takeAway ∈ GW := in_t2 (i := 72) rfl rfl
theorem se_X0_takeAway : Cond.selects RX0 yX0_takeAway yX0_takeAway ∈ GW := in_t2 (i := 73) rfl rfl
theorem cd_X0_takeAway : Cond.code yX0_takeAway cX0_takeAway 6 none ∈ GW := in_t2 (i := 74) rfl rfl
theorem ml_L_48 : Cond.methodLink RL 48 yX4_remove ∈ GW := in_t3 (i := 207) rfl rfl
theorem im_X4_remove : Cond.instanceMethod yX4_remove ∈ GW := in_t3 (i := 208) rfl rfl
theorem se_X4_remove : Cond.selects RX4 yX4_remove yX4_remove ∈ GW := in_t3 (i := 209) rfl rfl
theorem cd_X4_remove : Cond.code yX4_remove cX4_remove 3 (some .int) ∈ GW := in_t3 (i := 210) rfl rfl
theorem ml_L_49 : Cond.methodLink RL 49 yX3_copy ∈ GW := in_t2 (i := 75) rfl rfl
theorem im_X3_copy : Cond.instanceMethod yX3_copy ∈ GW := in_t2 (i := 76) rfl rfl
theorem se_X3_copy : Cond.selects RX3 yX3_copy yX3_copy ∈ GW := in_t2 (i := 77) rfl rfl
theorem cd_X3_copy : Cond.code yX3_copy cX3_copy 3 (some .int) ∈ GW := in_t2 (i := 78) rfl rfl
theorem ml_X3_126 : Cond.methodLink RX3 126 yX0_reasonAgainst ∈ GW := in_t2 (i := 79) rfl rfl
theorem im_X0_reasonAgainst : Cond.instanceMethod yX0_reasonAgainst ∈ GW := in_t2 (i := 80) rfl rfl
theorem se_X0_reasonAgainst : Cond.selects RX0 yX0_reasonAgainst yX0_reasonAgainst ∈ GW := in_t2 (i := 81) rfl rfl
theorem cd_X0_reasonAgainst : Cond.code yX0_reasonAgainst cX0_reasonAgainst 4 (some .int) ∈ GW := in_t2 (i := 82) rfl rfl
theorem ml_X0_124 : Cond.methodLink RX0 124 yX0_isBlunt ∈ GW := in_t2 (i := 83) rfl rfl
theorem ml_X0_127 : Cond.methodLink RX0 127 yX0_trace ∈ GW := in_t2 (i := 84) rfl rfl
theorem im_X0_trace : Cond.instanceMethod yX0_trace ∈ GW := in_t2 (i := 85) rfl rfl
theorem se_X0_trace : Cond.selects RX0 yX0_trace yX0_trace ∈ GW := in_t2 (i := 86) rfl rfl
theorem cd_X0_trace : Cond.code yX0_trace cX0_trace 11 none ∈ GW := in_t2 (i := 87) rfl rfl
theorem ml_X0_140 : Cond.methodLink RX0 140 yX0_signX ∈ GW := in_t2 (i := 88) rfl rfl
theorem im_X0_signX : Cond.instanceMethod yX0_signX ∈ GW := in_t2 (i := 89) rfl rfl
theorem se_X0_signX : Cond.selects RX0 yX0_signX yX0_signX ∈ GW := in_t2 (i := 90) rfl rfl
theorem cd_X0_signX : Cond.code yX0_signX cX0_signX 1 (some .int) ∈ GW := in_t2 (i := 91) rfl rfl
theorem ml_X0_145 : Cond.methodLink RX0 145 yX0_signY ∈ GW := in_t2 (i := 92) rfl rfl
theorem im_X0_signY : Cond.instanceMethod yX0_signY ∈ GW := in_t2 (i := 93) rfl rfl
theorem se_X0_signY : Cond.selects RX0 yX0_signY yX0_signY ∈ GW := in_t2 (i := 94) rfl rfl
theorem cd_X0_signY : Cond.code yX0_signY cX0_signY 1 (some .int) ∈ GW := in_t2 (i := 95) rfl rfl
theorem ml_X0_150 : Cond.methodLink RX0 150 yX0_aim ∈ GW := in_t2 (i := 96) rfl rfl
theorem im_X0_aim : Cond.instanceMethod yX0_aim ∈ GW := in_t2 (i := 97) rfl rfl
theorem se_X0_aim : Cond.selects RX0 yX0_aim yX0_aim ∈ GW := in_t2 (i := 98) rfl rfl
theorem cd_X0_aim : Cond.code yX0_aim cX0_aim 7 (some .long) ∈ GW := in_t2 (i := 99) rfl rfl
theorem ml_X0_83 : Cond.methodLink RX0 83 yX1_x ∈ GW := in_t2 (i := 100) rfl rfl
theorem ml_X0_87 : Cond.methodLink RX0 87 yX1_y ∈ GW := in_t2 (i := 101) rfl rfl
theorem ml_X0_107 : Cond.methodLink RX0 107 yX1_isJoined ∈ GW := in_t2 (i := 102) rfl rfl
theorem im_X1_isJoined : Cond.instanceMethod yX1_isJoined ∈ GW := in_t2 (i := 103) rfl rfl
theorem se_X1_isJoined : Cond.selects RX1 yX1_isJoined yX1_isJoined ∈ GW := in_t2 (i := 104) rfl rfl
theorem cd_X1_isJoined : Cond.code yX1_isJoined cX1_isJoined 2 (some .boolean) ∈ GW := in_t2 (i := 105) rfl rfl
theorem ml_X0_157 : Cond.methodLink RX0 157 yX0_follow ∈ GW := in_t2 (i := 106) rfl rfl
theorem st_X0_follow : Cond.static yX0_follow ∈ GW := in_t2 (i := 107) rfl rfl
theorem cd_X0_follow : Cond.code yX0_follow cX0_follow 6 (some .long) ∈ GW := in_t2 (i := 108) rfl rfl
theorem ml_X0_161 : Cond.methodLink RX0 161 yX1_add ∈ GW := in_t2 (i := 109) rfl rfl
theorem ml_X0_131 : Cond.methodLink RX0 131 yX1_isTooFine ∈ GW := in_t2 (i := 110) rfl rfl
theorem im_X1_isTooFine : Cond.instanceMethod yX1_isTooFine ∈ GW := in_t2 (i := 111) rfl rfl
theorem se_X1_isTooFine : Cond.selects RX1 yX1_isTooFine yX1_isTooFine ∈ GW := in_t2 (i := 112) rfl rfl
theorem cd_X1_isTooFine : Cond.code yX1_isTooFine cX1_isTooFine 2 (some .boolean) ∈ GW := in_t2 (i := 113) rfl rfl
theorem kl_X1_95 : Cond.constantLong RX1 95 (100000) ∈ GW := in_t2 (i := 123) rfl rfl
theorem st_X3_lowest : Cond.static yX3_lowest ∈ GW := in_t2 (i := 115) rfl rfl
theorem cd_X3_lowest : Cond.code yX3_lowest cX3_lowest 9 (some .long) ∈ GW := in_t2 (i := 116) rfl rfl
theorem ml_X3_236 : Cond.methodLink RX3 236 Lib.MathLoose.abs_long.x ∈ GW := in_t2 (i := 117) rfl rfl
theorem st_m_Lib_MathLoose_abs_long_x : Cond.static Lib.MathLoose.abs_long.x ∈ GW := in_t2 (i := 118) rfl rfl
theorem ini_java_lang_Math : Cond.initialized "java/lang/Math" ∈ GW := in_t1 (i := 6) rfl rfl
theorem cd_m_Lib_MathLoose_abs_long_x : Cond.code Lib.MathLoose.abs_long.x Lib.MathLoose.abs_long.code 2 (some .long) ∈ GW := in_t2 (i := 119) rfl rfl
theorem ml_X3_241 : Cond.methodLink RX3 241 yX3_greatestDivisor ∈ GW := in_t2 (i := 120) rfl rfl
theorem st_X3_greatestDivisor : Cond.static yX3_greatestDivisor ∈ GW := in_t2 (i := 121) rfl rfl
theorem cd_X3_greatestDivisor : Cond.code yX3_greatestDivisor cX3_greatestDivisor 11 (some .long) ∈ GW := in_t2 (i := 122) rfl rfl
theorem ml_X3_130 : Cond.methodLink RX3 130 yX0_keepTraced ∈ GW := in_t2 (i := 124) rfl rfl
theorem im_X0_keepTraced : Cond.instanceMethod yX0_keepTraced ∈ GW := in_t2 (i := 125) rfl rfl
theorem se_X0_keepTraced : Cond.selects RX0 yX0_keepTraced yX0_keepTraced ∈ GW := in_t2 (i := 126) rfl rfl
theorem cd_X0_keepTraced : Cond.code yX0_keepTraced cX0_keepTraced 3 (some .int) ∈ GW := in_t2 (i := 127) rfl rfl
theorem ml_X0_165 : Cond.methodLink RX0 165 yX0_drawLine ∈ GW := in_t2 (i := 128) rfl rfl
theorem im_X0_drawLine : Cond.instanceMethod yX0_drawLine ∈ GW := in_t2 (i := 129) rfl rfl
theorem se_X0_drawLine : Cond.selects RX0 yX0_drawLine yX0_drawLine ∈ GW := in_t2 (i := 130) rfl rfl
theorem cd_X0_drawLine : Cond.code yX0_drawLine cX0_drawLine 4 none ∈ GW := in_t2 (i := 131) rfl rfl
theorem ml_X0_114 : Cond.methodLink RX0 114 Lib.Math.min.name ∈ GW := in_t2 (i := 142) rfl rfl
theorem st_m_Lib_Math_min_name : Cond.static Lib.Math.min.name ∈ GW := in_t2 (i := 143) rfl rfl
theorem cd_m_Lib_Math_min_name : Cond.code Lib.Math.min.name Lib.Math.min.code 2 (some .int) ∈ GW := in_t2 (i := 144) rfl rfl
theorem ml_X0_95 : Cond.methodLink RX0 95 yX0_isOnBoard ∈ GW := in_t2 (i := 132) rfl rfl
theorem im_X0_isOnBoard : Cond.instanceMethod yX0_isOnBoard ∈ GW := in_t2 (i := 133) rfl rfl
theorem se_X0_isOnBoard : Cond.selects RX0 yX0_isOnBoard yX0_isOnBoard ∈ GW := in_t2 (i := 134) rfl rfl
theorem cd_X0_isOnBoard : Cond.code yX0_isOnBoard cX0_isOnBoard 7 (some .boolean) ∈ GW := in_t2 (i := 135) rfl rfl
theorem ml_X0_111 : Cond.methodLink RX0 111 yX1_lineLength ∈ GW := in_t2 (i := 136) rfl rfl
theorem im_X1_lineLength : Cond.instanceMethod yX1_lineLength ∈ GW := in_t2 (i := 137) rfl rfl
theorem se_X1_lineLength : Cond.selects RX1 yX1_lineLength yX1_lineLength ∈ GW := in_t2 (i := 138) rfl rfl
theorem cd_X1_lineLength : Cond.code yX1_lineLength cX1_lineLength 6 (some .int) ∈ GW := in_t2 (i := 139) rfl rfl
theorem ml_X1_77 : Cond.methodLink RX1 77 Lib.MathLoose.abs_long.x ∈ GW := in_t2 (i := 140) rfl rfl
theorem ml_X0_120 : Cond.methodLink RX0 120 yX1_changeLine ∈ GW := in_t2 (i := 145) rfl rfl
theorem im_X1_changeLine : Cond.instanceMethod yX1_changeLine ∈ GW := in_t2 (i := 146) rfl rfl
theorem se_X1_changeLine : Cond.selects RX1 yX1_changeLine yX1_changeLine ∈ GW := in_t2 (i := 147) rfl rfl
theorem cd_X1_changeLine : Cond.code yX1_changeLine cX1_changeLine 3 none ∈ GW := in_t2 (i := 148) rfl rfl
theorem ml_L_52 : Cond.methodLink RL 52 yX4_copy ∈ GW := in_t4 (i := 9) rfl rfl
theorem im_X4_copy : Cond.instanceMethod yX4_copy ∈ GW := in_t4 (i := 10) rfl rfl
theorem se_X4_copy : Cond.selects RX4 yX4_copy yX4_copy ∈ GW := in_t4 (i := 11) rfl rfl
theorem cd_X4_copy : Cond.code yX4_copy cX4_copy 5 (some .int) ∈ GW := in_t4 (i := 12) rfl rfl
theorem ml_X4_153 : Cond.methodLink RX4 153 yX4_reason ∈ GW := in_t3 (i := 215) rfl rfl
theorem im_X4_reason : Cond.instanceMethod yX4_reason ∈ GW := in_t3 (i := 217) rfl rfl
theorem se_X4_reason : Cond.selects RX4 yX4_reason yX4_reason ∈ GW := in_p2 (i := 4) rfl
theorem cd_X4_reason : Cond.code yX4_reason cX4_reason 3 (some .int) ∈ GW := in_t3 (i := 218) rfl rfl
theorem ml_X4_150 : Cond.methodLink RX4 150 yX4_copies ∈ GW := in_t3 (i := 219) rfl rfl
theorem im_X4_copies : Cond.instanceMethod yX4_copies ∈ GW := in_t3 (i := 221) rfl rfl
theorem se_X4_copies : Cond.selects RX4 yX4_copies yX4_copies ∈ GW := in_p2 (i := 5) rfl
theorem cd_X4_copies : Cond.code yX4_copies cX4_copies 6 (some .boolean) ∈ GW := in_t3 (i := 222) rfl rfl
theorem kl_X4_141 : Cond.constantLong RX4 141 (100000) ∈ GW := in_t3 (i := 227) rfl rfl
theorem ml_X4_134 : Cond.methodLink RX4 134 yX4_put ∈ GW := in_t3 (i := 223) rfl rfl
theorem im_X4_put : Cond.instanceMethod yX4_put ∈ GW := in_t3 (i := 225) rfl rfl
theorem se_X4_put : Cond.selects RX4 yX4_put yX4_put ∈ GW := in_p2 (i := 6) rfl
theorem cd_X4_put : Cond.code yX4_put cX4_put 2 none ∈ GW := in_t3 (i := 226) rfl rfl
theorem ml_X4_124 : Cond.methodLink RX4 124 yX4_signOf ∈ GW := in_t3 (i := 228) rfl rfl
theorem im_X4_signOf : Cond.instanceMethod yX4_signOf ∈ GW := in_t3 (i := 230) rfl rfl
theorem se_X4_signOf : Cond.selects RX4 yX4_signOf yX4_signOf ∈ GW := in_p2 (i := 7) rfl
theorem cd_X4_signOf : Cond.code yX4_signOf cX4_signOf 2 (some .int) ∈ GW := in_t3 (i := 231) rfl rfl
theorem kl_X4_122 : Cond.constantLong RX4 122 (2) ∈ GW := in_t3 (i := 232) rfl rfl
theorem ml_X4_143 : Cond.methodLink RX4 143 yX4_shift ∈ GW := in_t3 (i := 233) rfl rfl
theorem im_X4_shift : Cond.instanceMethod yX4_shift ∈ GW := in_t3 (i := 235) rfl rfl
theorem se_X4_shift : Cond.selects RX4 yX4_shift yX4_shift ∈ GW := in_p2 (i := 8) rfl
theorem cd_X4_shift : Cond.code yX4_shift cX4_shift 5 none ∈ GW := in_t3 (i := 236) rfl rfl
theorem ml_X4_127 : Cond.methodLink RX4 127 yX4_aim ∈ GW := in_t3 (i := 237) rfl rfl
theorem im_X4_aim : Cond.instanceMethod yX4_aim ∈ GW := in_t3 (i := 239) rfl rfl
theorem se_X4_aim : Cond.selects RX4 yX4_aim yX4_aim ∈ GW := in_p2 (i := 9) rfl
theorem cd_X4_aim : Cond.code yX4_aim cX4_aim 8 none ∈ GW := in_t4 (i := 0) rfl rfl
theorem ml_X4_147 : Cond.methodLink RX4 147 yX4_trace ∈ GW := in_t4 (i := 1) rfl rfl
theorem im_X4_trace : Cond.instanceMethod yX4_trace ∈ GW := in_t4 (i := 3) rfl rfl
theorem se_X4_trace : Cond.selects RX4 yX4_trace yX4_trace ∈ GW := in_p2 (i := 10) rfl
theorem cd_X4_trace : Cond.code yX4_trace cX4_trace 8 none ∈ GW := in_t4 (i := 4) rfl rfl
theorem ml_X4_131 : Cond.methodLink RX4 131 yX4_follow ∈ GW := in_t4 (i := 5) rfl rfl
theorem im_X4_follow : Cond.instanceMethod yX4_follow ∈ GW := in_t4 (i := 7) rfl rfl
theorem se_X4_follow : Cond.selects RX4 yX4_follow yX4_follow ∈ GW := in_p2 (i := 11) rfl
theorem cd_X4_follow : Cond.code yX4_follow cX4_follow 11 none ∈ GW := in_t4 (i := 8) rfl rfl
theorem ml_X4_156 : Cond.methodLink RX4 156 yX4_line ∈ GW := in_t4 (i := 13) rfl rfl
theorem im_X4_line : Cond.instanceMethod yX4_line ∈ GW := in_t4 (i := 15) rfl rfl
theorem se_X4_line : Cond.selects RX4 yX4_line yX4_line ∈ GW := in_p2 (i := 12) rfl
theorem cd_X4_line : Cond.code yX4_line cX4_line 6 none ∈ GW := in_t4 (i := 16) rfl rfl
theorem ml_X4_138 : Cond.methodLink RX4 138 yX4_isOnBoard ∈ GW := in_t4 (i := 17) rfl rfl
theorem im_X4_isOnBoard : Cond.instanceMethod yX4_isOnBoard ∈ GW := in_t4 (i := 19) rfl rfl
theorem se_X4_isOnBoard : Cond.selects RX4 yX4_isOnBoard yX4_isOnBoard ∈ GW := in_p2 (i := 13) rfl
theorem cd_X4_isOnBoard : Cond.code yX4_isOnBoard cX4_isOnBoard 5 (some .boolean) ∈ GW := in_t4 (i := 20) rfl rfl
theorem ml_L_53 : Cond.methodLink RL 53 yX3_why ∈ GW := in_t2 (i := 149) rfl rfl
theorem im_X3_why : Cond.instanceMethod yX3_why ∈ GW := in_t2 (i := 150) rfl rfl
theorem se_X3_why : Cond.selects RX3 yX3_why yX3_why ∈ GW := in_t2 (i := 151) rfl rfl
theorem cd_X3_why : Cond.code yX3_why cX3_why 3 (some .int) ∈ GW := in_t2 (i := 152) rfl rfl
theorem ml_L_56 : Cond.methodLink RL 56 yX4_why ∈ GW := in_t3 (i := 211) rfl rfl
theorem im_X4_why : Cond.instanceMethod yX4_why ∈ GW := in_t3 (i := 212) rfl rfl
theorem se_X4_why : Cond.selects RX4 yX4_why yX4_why ∈ GW := in_t3 (i := 213) rfl rfl
theorem cd_X4_why : Cond.code yX4_why cX4_why 2 (some .int) ∈ GW := in_t3 (i := 214) rfl rfl
theorem ml_L_57 : Cond.methodLink RL 57 yX3_drawing ∈ GW := in_t2 (i := 153) rfl rfl
theorem im_X3_drawing : Cond.instanceMethod yX3_drawing ∈ GW := in_t2 (i := 154) rfl rfl
theorem se_X3_drawing : Cond.selects RX3 yX3_drawing yX3_drawing ∈ GW := in_t2 (i := 155) rfl rfl
theorem cd_X3_drawing : Cond.code yX3_drawing cX3_drawing 4 (some .int) ∈ GW := in_t2 (i := 156) rfl rfl
theorem kc_X3_136 : Cond.constant RX3 136 (-2000000004) ∈ GW := in_t2 (i := 157) rfl rfl
theorem kf_X3_168 : Cond.constantFloat RX3 168 (1092616192) ∈ GW := in_t2 (i := 199) rfl rfl
theorem ml_X3_137 : Cond.methodLink RX3 137 yX0_originalOf ∈ GW := in_t2 (i := 158) rfl rfl
theorem im_X0_originalOf : Cond.instanceMethod yX0_originalOf ∈ GW := in_t2 (i := 159) rfl rfl
theorem se_X0_originalOf : Cond.selects RX0 yX0_originalOf yX0_originalOf ∈ GW := in_t2 (i := 160) rfl rfl
theorem cd_X0_originalOf : Cond.code yX0_originalOf cX0_originalOf 5 (some .int) ∈ GW := in_t2 (i := 161) rfl rfl
theorem ml_X0_79 : Cond.methodLink RX0 79 yX1_isCopy ∈ GW := in_t2 (i := 162) rfl rfl
theorem ml_X3_140 : Cond.methodLink RX3 140 yX0_stepsOf ∈ GW := in_t2 (i := 163) rfl rfl
theorem im_X0_stepsOf : Cond.instanceMethod yX0_stepsOf ∈ GW := in_t2 (i := 164) rfl rfl
theorem se_X0_stepsOf : Cond.selects RX0 yX0_stepsOf yX0_stepsOf ∈ GW := in_t2 (i := 165) rfl rfl
theorem cd_X0_stepsOf : Cond.code yX0_stepsOf cX0_stepsOf 5 (some .int) ∈ GW := in_t2 (i := 166) rfl rfl
theorem ml_X3_149 : Cond.methodLink RX3 149 yX1_drawnLines ∈ GW := in_t2 (i := 167) rfl rfl
theorem im_X1_drawnLines : Cond.instanceMethod yX1_drawnLines ∈ GW := in_t2 (i := 168) rfl rfl
theorem se_X1_drawnLines : Cond.selects RX1 yX1_drawnLines yX1_drawnLines ∈ GW := in_t2 (i := 169) rfl rfl
theorem cd_X1_drawnLines : Cond.code yX1_drawnLines cX1_drawnLines 3 (some .int) ∈ GW := in_t2 (i := 170) rfl rfl
theorem ml_X1_85 : Cond.methodLink RX1 85 yX1_width ∈ GW := in_t2 (i := 171) rfl rfl
theorem im_X1_width : Cond.instanceMethod yX1_width ∈ GW := in_t2 (i := 172) rfl rfl
theorem se_X1_width : Cond.selects RX1 yX1_width yX1_width ∈ GW := in_t2 (i := 173) rfl rfl
theorem cd_X1_width : Cond.code yX1_width cX1_width 2 (some .int) ∈ GW := in_t2 (i := 174) rfl rfl
theorem ml_X1_71 : Cond.methodLink RX1 71 Lib.Math.max.name ∈ GW := in_t2 (i := 175) rfl rfl
theorem st_m_Lib_Math_max_name : Cond.static Lib.Math.max.name ∈ GW := in_t2 (i := 176) rfl rfl
theorem cd_m_Lib_Math_max_name : Cond.code Lib.Math.max.name Lib.Math.max.code 2 (some .int) ∈ GW := in_t2 (i := 177) rfl rfl
theorem ml_X3_151 : Cond.methodLink RX3 151 yX1_drawnLength ∈ GW := in_t2 (i := 178) rfl rfl
theorem im_X1_drawnLength : Cond.instanceMethod yX1_drawnLength ∈ GW := in_t2 (i := 179) rfl rfl
theorem se_X1_drawnLength : Cond.selects RX1 yX1_drawnLength yX1_drawnLength ∈ GW := in_t2 (i := 180) rfl rfl
theorem cd_X1_drawnLength : Cond.code yX1_drawnLength cX1_drawnLength 3 (some .int) ∈ GW := in_t2 (i := 181) rfl rfl
theorem ml_X1_88 : Cond.methodLink RX1 88 yX1_lineLength ∈ GW := in_t2 (i := 182) rfl rfl
theorem ml_X3_153 : Cond.methodLink RX3 153 yX1_greatestWidth ∈ GW := in_t2 (i := 183) rfl rfl
theorem im_X1_greatestWidth : Cond.instanceMethod yX1_greatestWidth ∈ GW := in_t2 (i := 184) rfl rfl
theorem se_X1_greatestWidth : Cond.selects RX1 yX1_greatestWidth yX1_greatestWidth ∈ GW := in_t2 (i := 185) rfl rfl
theorem cd_X1_greatestWidth : Cond.code yX1_greatestWidth cX1_greatestWidth 3 (some .int) ∈ GW := in_t2 (i := 186) rfl rfl
theorem ml_X3_156 : Cond.methodLink RX3 156 yX0_pointsOffBoard ∈ GW := in_t2 (i := 187) rfl rfl
theorem im_X0_pointsOffBoard : Cond.instanceMethod yX0_pointsOffBoard ∈ GW := in_t2 (i := 188) rfl rfl
theorem se_X0_pointsOffBoard : Cond.selects RX0 yX0_pointsOffBoard yX0_pointsOffBoard ∈ GW := in_t2 (i := 189) rfl rfl
theorem cd_X0_pointsOffBoard : Cond.code yX0_pointsOffBoard cX0_pointsOffBoard 4 (some .int) ∈ GW := in_t2 (i := 190) rfl rfl
theorem ml_X3_160 : Cond.methodLink RX3 160 yX1_ratioAsFloat ∈ GW := in_t2 (i := 191) rfl rfl
theorem im_X1_ratioAsFloat : Cond.instanceMethod yX1_ratioAsFloat ∈ GW := in_t2 (i := 192) rfl rfl
theorem se_X1_ratioAsFloat : Cond.selects RX1 yX1_ratioAsFloat yX1_ratioAsFloat ∈ GW := in_t2 (i := 193) rfl rfl
theorem cd_X1_ratioAsFloat : Cond.code yX1_ratioAsFloat cX1_ratioAsFloat 5 (some .float) ∈ GW := in_t2 (i := 194) rfl rfl
theorem ml_X3_164 : Cond.methodLink RX3 164 yX3_floatBits ∈ GW := in_t2 (i := 195) rfl rfl
theorem st_X3_floatBits : Cond.static yX3_floatBits ∈ GW := in_t2 (i := 196) rfl rfl
theorem cd_X3_floatBits : Cond.code yX3_floatBits cX3_floatBits 4 (some .int) ∈ GW := in_t2 (i := 197) rfl rfl
theorem kf_X3_245 : Cond.constantFloat RX3 245 (1258291200) ∈ GW := in_t2 (i := 198) rfl rfl
theorem ml_L_60 : Cond.methodLink RL 60 yX4_drawing ∈ GW := in_t4 (i := 21) rfl rfl
theorem im_X4_drawing : Cond.instanceMethod yX4_drawing ∈ GW := in_t4 (i := 22) rfl rfl
theorem se_X4_drawing : Cond.selects RX4 yX4_drawing yX4_drawing ∈ GW := in_t4 (i := 23) rfl rfl
theorem cd_X4_drawing : Cond.code yX4_drawing cX4_drawing 3 (some .int) ∈ GW := in_t4 (i := 24) rfl rfl
theorem ml_X4_184 : Cond.methodLink RX4 184 yX4_drawingOf ∈ GW := in_t4 (i := 25) rfl rfl
theorem im_X4_drawingOf : Cond.instanceMethod yX4_drawingOf ∈ GW := in_t4 (i := 27) rfl rfl
theorem se_X4_drawingOf : Cond.selects RX4 yX4_drawingOf yX4_drawingOf ∈ GW := in_p2 (i := 14) rfl
theorem cd_X4_drawingOf : Cond.code yX4_drawingOf cX4_drawingOf 3 (some .int) ∈ GW := in_t4 (i := 28) rfl rfl
theorem kc_X4_160 : Cond.constant RX4 160 (-2000000004) ∈ GW := in_t4 (i := 29) rfl rfl
theorem kf_X4_180 : Cond.constantFloat RX4 180 (1092616192) ∈ GW := in_t4 (i := 56) rfl rfl
theorem ml_X4_161 : Cond.methodLink RX4 161 yX4_root ∈ GW := in_t4 (i := 30) rfl rfl
theorem im_X4_root : Cond.instanceMethod yX4_root ∈ GW := in_t4 (i := 32) rfl rfl
theorem se_X4_root : Cond.selects RX4 yX4_root yX4_root ∈ GW := in_p2 (i := 15) rfl
theorem cd_X4_root : Cond.code yX4_root cX4_root 3 (some .int) ∈ GW := in_t4 (i := 33) rfl rfl
theorem ml_X4_164 : Cond.methodLink RX4 164 yX4_steps ∈ GW := in_t4 (i := 34) rfl rfl
theorem im_X4_steps : Cond.instanceMethod yX4_steps ∈ GW := in_t4 (i := 36) rfl rfl
theorem se_X4_steps : Cond.selects RX4 yX4_steps yX4_steps ∈ GW := in_p3 (i := 0) rfl
theorem cd_X4_steps : Cond.code yX4_steps cX4_steps 4 (some .int) ∈ GW := in_t4 (i := 37) rfl rfl
theorem ml_X4_167 : Cond.methodLink RX4 167 yX4_offBoard ∈ GW := in_t4 (i := 38) rfl rfl
theorem im_X4_offBoard : Cond.instanceMethod yX4_offBoard ∈ GW := in_t4 (i := 40) rfl rfl
theorem se_X4_offBoard : Cond.selects RX4 yX4_offBoard yX4_offBoard ∈ GW := in_p3 (i := 1) rfl
theorem cd_X4_offBoard : Cond.code yX4_offBoard cX4_offBoard 4 (some .int) ∈ GW := in_t4 (i := 41) rfl rfl
theorem ml_X4_170 : Cond.methodLink RX4 170 yX4_ratioOf ∈ GW := in_t4 (i := 42) rfl rfl
theorem im_X4_ratioOf : Cond.instanceMethod yX4_ratioOf ∈ GW := in_t4 (i := 44) rfl rfl
theorem se_X4_ratioOf : Cond.selects RX4 yX4_ratioOf yX4_ratioOf ∈ GW := in_p3 (i := 2) rfl
theorem cd_X4_ratioOf : Cond.code yX4_ratioOf cX4_ratioOf 2 (some .float) ∈ GW := in_t4 (i := 45) rfl rfl
theorem ml_X4_174 : Cond.methodLink RX4 174 yJxf58ca_floatToIntBits_5c35a ∈ GW := in_t4 (i := 46) rfl rfl
theorem st_Jxf58ca_floatToIntBits_5c35a : Cond.static yJxf58ca_floatToIntBits_5c35a ∈ GW := in_t4 (i := 47) rfl rfl
theorem ini_Jxf58ca : Cond.initialized RJxf58ca ∈ GW := in_t1 (i := 7) rfl rfl
theorem cd_Jxf58ca_floatToIntBits_5c35a : Cond.code yJxf58ca_floatToIntBits_5c35a cJxf58ca_floatToIntBits_5c35a 1 (some .int) ∈ GW := in_t4 (i := 48) rfl rfl
theorem ml_Jxf58ca_74 : Cond.methodLink RJxf58ca 74 ⟨"java/lang/Float", "floatToRawIntBits", "(F)I"⟩ ∈ GW := in_t4 (i := 52) rfl rfl
theorem nat_raw_floatToRawIntBits : Cond.native ⟨"java/lang/Float", "floatToRawIntBits", "(F)I"⟩ ∈ GW := in_t4 (i := 54) rfl rfl
theorem st_raw_floatToRawIntBits : Cond.static ⟨"java/lang/Float", "floatToRawIntBits", "(F)I"⟩ ∈ GW := in_t4 (i := 53) rfl rfl
theorem ini_java_lang_Float : Cond.initialized "java/lang/Float" ∈ GW := in_t1 (i := 7) rfl rfl
theorem kc_Jxf58ca_77 : Cond.constant RJxf58ca 77 (2143289344) ∈ GW := in_t4 (i := 55) rfl rfl
theorem ml_Jxf58ca_59 : Cond.methodLink RJxf58ca 59 yJxf58ca_isNaN_12338 ∈ GW := in_t4 (i := 49) rfl rfl
theorem st_Jxf58ca_isNaN_12338 : Cond.static yJxf58ca_isNaN_12338 ∈ GW := in_t4 (i := 50) rfl rfl
theorem cd_Jxf58ca_isNaN_12338 : Cond.code yJxf58ca_isNaN_12338 cJxf58ca_isNaN_12338 1 (some .boolean) ∈ GW := in_t4 (i := 51) rfl rfl
theorem ml_X4_181 : Cond.methodLink RX4 181 yX4_lines ∈ GW := in_t4 (i := 57) rfl rfl
theorem im_X4_lines : Cond.instanceMethod yX4_lines ∈ GW := in_t4 (i := 59) rfl rfl
theorem se_X4_lines : Cond.selects RX4 yX4_lines yX4_lines ∈ GW := in_p3 (i := 3) rfl
theorem cd_X4_lines : Cond.code yX4_lines cX4_lines 8 (some .int) ∈ GW := in_t4 (i := 60) rfl rfl
theorem ml_L_61 : Cond.methodLink RL 61 yX3_ratio ∈ GW := in_t2 (i := 200) rfl rfl
theorem im_X3_ratio : Cond.instanceMethod yX3_ratio ∈ GW := in_t2 (i := 201) rfl rfl
theorem se_X3_ratio : Cond.selects RX3 yX3_ratio yX3_ratio ∈ GW := in_t2 (i := 202) rfl rfl
theorem cd_X3_ratio : Cond.code yX3_ratio cX3_ratio 4 (some .int) ∈ GW := in_t2 (i := 203) rfl rfl
theorem ml_X3_176 : Cond.methodLink RX3 176 yX3_lowest ∈ GW := in_t2 (i := 204) rfl rfl
theorem ml_L_64 : Cond.methodLink RL 64 yX4_ratio ∈ GW := in_t4 (i := 61) rfl rfl
theorem im_X4_ratio : Cond.instanceMethod yX4_ratio ∈ GW := in_t4 (i := 62) rfl rfl
theorem se_X4_ratio : Cond.selects RX4 yX4_ratio yX4_ratio ∈ GW := in_t4 (i := 63) rfl rfl
theorem cd_X4_ratio : Cond.code yX4_ratio cX4_ratio 3 (some .int) ∈ GW := in_t4 (i := 64) rfl rfl
theorem ml_L_65 : Cond.methodLink RL 65 yX3_pointInfo ∈ GW := in_t2 (i := 205) rfl rfl
theorem im_X3_pointInfo : Cond.instanceMethod yX3_pointInfo ∈ GW := in_t2 (i := 206) rfl rfl
theorem se_X3_pointInfo : Cond.selects RX3 yX3_pointInfo yX3_pointInfo ∈ GW := in_t2 (i := 207) rfl rfl
theorem cd_X3_pointInfo : Cond.code yX3_pointInfo cX3_pointInfo 5 (some .long) ∈ GW := in_t2 (i := 208) rfl rfl
theorem kl_X3_183 : Cond.constantLong RX3 183 (-2000000001) ∈ GW := in_t2 (i := 210) rfl rfl
theorem ml_X3_180 : Cond.methodLink RX3 180 yX1_has ∈ GW := in_t2 (i := 209) rfl rfl
theorem ml_X3_185 : Cond.methodLink RX3 185 yX1_x ∈ GW := in_t2 (i := 211) rfl rfl
theorem ml_X3_189 : Cond.methodLink RX3 189 yX1_y ∈ GW := in_t2 (i := 212) rfl rfl
theorem ml_X3_192 : Cond.methodLink RX3 192 yX1_isJoined ∈ GW := in_t2 (i := 213) rfl rfl
theorem ml_X3_195 : Cond.methodLink RX3 195 yX1_width ∈ GW := in_t2 (i := 214) rfl rfl
theorem ml_X3_198 : Cond.methodLink RX3 198 yX1_lineLength ∈ GW := in_t2 (i := 215) rfl rfl
theorem ml_L_69 : Cond.methodLink RL 69 yX4_pointInfo ∈ GW := in_t4 (i := 65) rfl rfl
theorem im_X4_pointInfo : Cond.instanceMethod yX4_pointInfo ∈ GW := in_t4 (i := 66) rfl rfl
theorem se_X4_pointInfo : Cond.selects RX4 yX4_pointInfo yX4_pointInfo ∈ GW := in_t4 (i := 67) rfl rfl
theorem cd_X4_pointInfo : Cond.code yX4_pointInfo cX4_pointInfo 4 (some .long) ∈ GW := in_t4 (i := 68) rfl rfl
theorem kl_X4_190 : Cond.constantLong RX4 190 (-2000000001) ∈ GW := in_t4 (i := 73) rfl rfl
theorem ml_X4_187 : Cond.methodLink RX4 187 yX4_isPoint ∈ GW := in_t4 (i := 69) rfl rfl
theorem im_X4_isPoint : Cond.instanceMethod yX4_isPoint ∈ GW := in_t4 (i := 71) rfl rfl
theorem se_X4_isPoint : Cond.selects RX4 yX4_isPoint yX4_isPoint ∈ GW := in_p3 (i := 4) rfl
theorem cd_X4_isPoint : Cond.code yX4_isPoint cX4_isPoint 3 (some .boolean) ∈ GW := in_t4 (i := 72) rfl rfl
theorem ml_L_70 : Cond.methodLink RL 70 yX3_atOnce ∈ GW := in_t2 (i := 216) rfl rfl
theorem im_X3_atOnce : Cond.instanceMethod yX3_atOnce ∈ GW := in_t2 (i := 217) rfl rfl
theorem se_X3_atOnce : Cond.selects RX3 yX3_atOnce yX3_atOnce ∈ GW := in_t2 (i := 218) rfl rfl
theorem cd_X3_atOnce : Cond.code yX3_atOnce cX3_atOnce 6 (some .long) ∈ GW := in_t2 (i := 219) rfl rfl
theorem ml_X3_201 : Cond.methodLink RX3 201 yX1_xAtOnce ∈ GW := in_t2 (i := 220) rfl rfl
theorem im_X1_xAtOnce : Cond.instanceMethod yX1_xAtOnce ∈ GW := in_t2 (i := 221) rfl rfl
theorem se_X1_xAtOnce : Cond.selects RX1 yX1_xAtOnce yX1_xAtOnce ∈ GW := in_t2 (i := 222) rfl rfl
theorem cd_X1_xAtOnce : Cond.code yX1_xAtOnce cX1_xAtOnce 3 (some .long) ∈ GW := in_t2 (i := 223) rfl rfl
theorem ml_X3_205 : Cond.methodLink RX3 205 yX1_yAtOnce ∈ GW := in_t2 (i := 224) rfl rfl
theorem im_X1_yAtOnce : Cond.instanceMethod yX1_yAtOnce ∈ GW := in_t2 (i := 225) rfl rfl
theorem se_X1_yAtOnce : Cond.selects RX1 yX1_yAtOnce yX1_yAtOnce ∈ GW := in_t2 (i := 226) rfl rfl
theorem cd_X1_yAtOnce : Cond.code yX1_yAtOnce cX1_yAtOnce 3 (some .long) ∈ GW := in_t2 (i := 227) rfl rfl
theorem ml_L_73 : Cond.methodLink RL 73 yX4_atOnce ∈ GW := in_t4 (i := 74) rfl rfl
theorem im_X4_atOnce : Cond.instanceMethod yX4_atOnce ∈ GW := in_t4 (i := 75) rfl rfl
theorem se_X4_atOnce : Cond.selects RX4 yX4_atOnce yX4_atOnce ∈ GW := in_t4 (i := 76) rfl rfl
theorem cd_X4_atOnce : Cond.code yX4_atOnce cX4_atOnce 10 (some .long) ∈ GW := in_t4 (i := 77) rfl rfl
theorem ml_L_74 : Cond.methodLink RL 74 yX3_alike ∈ GW := in_t2 (i := 228) rfl rfl
theorem im_X3_alike : Cond.instanceMethod yX3_alike ∈ GW := in_t2 (i := 229) rfl rfl
theorem se_X3_alike : Cond.selects RX3 yX3_alike yX3_alike ∈ GW := in_t2 (i := 230) rfl rfl
theorem cd_X3_alike : Cond.code yX3_alike cX3_alike 7 (some .int) ∈ GW := in_t2 (i := 231) rfl rfl
theorem ml_L_77 : Cond.methodLink RL 77 yX4_alike ∈ GW := in_t4 (i := 78) rfl rfl
theorem im_X4_alike : Cond.instanceMethod yX4_alike ∈ GW := in_t4 (i := 79) rfl rfl
theorem se_X4_alike : Cond.selects RX4 yX4_alike yX4_alike ∈ GW := in_t4 (i := 80) rfl rfl
theorem cd_X4_alike : Cond.code yX4_alike cX4_alike 7 (some .int) ∈ GW := in_t4 (i := 81) rfl rfl
theorem ml_L_78 : Cond.methodLink RL 78 yX3_armFor ∈ GW := in_t2 (i := 232) rfl rfl
theorem im_X3_armFor : Cond.instanceMethod yX3_armFor ∈ GW := in_t2 (i := 233) rfl rfl
theorem se_X3_armFor : Cond.selects RX3 yX3_armFor yX3_armFor ∈ GW := in_t2 (i := 234) rfl rfl
theorem cd_X3_armFor : Cond.code yX3_armFor cX3_armFor 13 (some .int) ∈ GW := in_t2 (i := 235) rfl rfl
theorem kl_X3_208 : Cond.constantLong RX3 208 (20) ∈ GW := in_t2 (i := 236) rfl rfl
theorem kl_X3_210 : Cond.constantLong RX3 210 (100) ∈ GW := in_t2 (i := 237) rfl rfl
theorem ml_L_81 : Cond.methodLink RL 81 yX4_armFor ∈ GW := in_t4 (i := 82) rfl rfl
theorem im_X4_armFor : Cond.instanceMethod yX4_armFor ∈ GW := in_t4 (i := 83) rfl rfl
theorem se_X4_armFor : Cond.selects RX4 yX4_armFor yX4_armFor ∈ GW := in_t4 (i := 84) rfl rfl
theorem cd_X4_armFor : Cond.code yX4_armFor cX4_armFor 5 (some .int) ∈ GW := in_t4 (i := 85) rfl rfl
theorem kl_X4_192 : Cond.constantLong RX4 192 (20) ∈ GW := in_t4 (i := 86) rfl rfl
theorem ml_L_82 : Cond.methodLink RL 82 yX3_undo ∈ GW := in_t2 (i := 238) rfl rfl
theorem im_X3_undo : Cond.instanceMethod yX3_undo ∈ GW := in_t2 (i := 239) rfl rfl
theorem se_X3_undo : Cond.selects RX3 yX3_undo yX3_undo ∈ GW := in_t3 (i := 0) rfl rfl
theorem cd_X3_undo : Cond.code yX3_undo cX3_undo 3 (some .int) ∈ GW := in_t3 (i := 1) rfl rfl
theorem ml_L_85 : Cond.methodLink RL 85 yX4_undo ∈ GW := in_t4 (i := 87) rfl rfl
theorem im_X4_undo : Cond.instanceMethod yX4_undo ∈ GW := in_t4 (i := 88) rfl rfl
theorem se_X4_undo : Cond.selects RX4 yX4_undo yX4_undo ∈ GW := in_t4 (i := 89) rfl rfl
theorem cd_X4_undo : Cond.code yX4_undo cX4_undo 1 (some .int) ∈ GW := in_t4 (i := 90) rfl rfl
theorem ml_L_86 : Cond.methodLink RL 86 yX3_type ∈ GW := in_t3 (i := 2) rfl rfl
theorem im_X3_type : Cond.instanceMethod yX3_type ∈ GW := in_t3 (i := 3) rfl rfl
theorem se_X3_type : Cond.selects RX3 yX3_type yX3_type ∈ GW := in_t3 (i := 4) rfl rfl
theorem cd_X3_type : Cond.code yX3_type cX3_type 2 (some .int) ∈ GW := in_t3 (i := 5) rfl rfl
theorem ml_X3_212 : Cond.methodLink RX3 212 yX2_append ∈ GW := in_t3 (i := 6) rfl rfl
theorem im_X2_append : Cond.instanceMethod yX2_append ∈ GW := in_t3 (i := 7) rfl rfl
theorem se_X2_append : Cond.selects RX2 yX2_append yX2_append ∈ GW := in_t3 (i := 8) rfl rfl
theorem cd_X2_append : Cond.code yX2_append cX2_append 2 (some .boolean) ∈ GW := in_t3 (i := 9) rfl rfl
theorem ml_L_89 : Cond.methodLink RL 89 yX4_type ∈ GW := in_t4 (i := 91) rfl rfl
theorem im_X4_type : Cond.instanceMethod yX4_type ∈ GW := in_t4 (i := 92) rfl rfl
theorem se_X4_type : Cond.selects RX4 yX4_type yX4_type ∈ GW := in_t4 (i := 93) rfl rfl
theorem cd_X4_type : Cond.code yX4_type cX4_type 2 (some .int) ∈ GW := in_t4 (i := 94) rfl rfl
theorem ml_L_90 : Cond.methodLink RL 90 yX3_clearText ∈ GW := in_t3 (i := 10) rfl rfl
theorem im_X3_clearText : Cond.instanceMethod yX3_clearText ∈ GW := in_t3 (i := 11) rfl rfl
theorem se_X3_clearText : Cond.selects RX3 yX3_clearText yX3_clearText ∈ GW := in_t3 (i := 12) rfl rfl
theorem cd_X3_clearText : Cond.code yX3_clearText cX3_clearText 2 (some .int) ∈ GW := in_t3 (i := 13) rfl rfl
theorem ml_L_93 : Cond.methodLink RL 93 yX4_clearText ∈ GW := in_t4 (i := 95) rfl rfl
theorem im_X4_clearText : Cond.instanceMethod yX4_clearText ∈ GW := in_t4 (i := 96) rfl rfl
theorem se_X4_clearText : Cond.selects RX4 yX4_clearText yX4_clearText ∈ GW := in_t4 (i := 97) rfl rfl
theorem cd_X4_clearText : Cond.code yX4_clearText cX4_clearText 2 (some .int) ∈ GW := in_t4 (i := 98) rfl rfl
theorem ml_L_94 : Cond.methodLink RL 94 yX3_fault ∈ GW := in_t3 (i := 14) rfl rfl
theorem im_X3_fault : Cond.instanceMethod yX3_fault ∈ GW := in_t3 (i := 15) rfl rfl
theorem se_X3_fault : Cond.selects RX3 yX3_fault yX3_fault ∈ GW := in_t3 (i := 16) rfl rfl
theorem cd_X3_fault : Cond.code yX3_fault cX3_fault 2 (some .int) ∈ GW := in_t3 (i := 17) rfl rfl
theorem ml_X3_216 : Cond.methodLink RX3 216 yX2_parse ∈ GW := in_t3 (i := 18) rfl rfl
theorem im_X2_parse : Cond.instanceMethod yX2_parse ∈ GW := in_t3 (i := 19) rfl rfl
theorem se_X2_parse : Cond.selects RX2 yX2_parse yX2_parse ∈ GW := in_t3 (i := 20) rfl rfl
theorem cd_X2_parse : Cond.code yX2_parse cX2_parse 4 (some .int) ∈ GW := in_t3 (i := 21) rfl rfl
theorem ml_X2_42 : Cond.methodLink RX2 42 yX2_parsePoint ∈ GW := in_t3 (i := 22) rfl rfl
theorem im_X2_parsePoint : Cond.instanceMethod yX2_parsePoint ∈ GW := in_t3 (i := 24) rfl rfl
theorem se_X2_parsePoint : Cond.selects RX2 yX2_parsePoint yX2_parsePoint ∈ GW := in_p1 (i := 2) rfl
theorem cd_X2_parsePoint : Cond.code yX2_parsePoint cX2_parsePoint 4 none ∈ GW := in_t3 (i := 25) rfl rfl
theorem ml_X2_46 : Cond.methodLink RX2 46 yX2_here ∈ GW := in_t3 (i := 26) rfl rfl
theorem im_X2_here : Cond.instanceMethod yX2_here ∈ GW := in_t3 (i := 28) rfl rfl
theorem se_X2_here : Cond.selects RX2 yX2_here yX2_here ∈ GW := in_p1 (i := 3) rfl
theorem cd_X2_here : Cond.code yX2_here cX2_here 1 (some .char) ∈ GW := in_t3 (i := 29) rfl rfl
theorem ml_X2_61 : Cond.methodLink RX2 61 yX2_isDigit ∈ GW := in_t3 (i := 30) rfl rfl
theorem st_X2_isDigit : Cond.static yX2_isDigit ∈ GW := in_t3 (i := 31) rfl rfl
theorem cd_X2_isDigit : Cond.code yX2_isDigit cX2_isDigit 1 (some .boolean) ∈ GW := in_t3 (i := 32) rfl rfl
theorem ml_X2_64 : Cond.methodLink RX2 64 yX2_fail ∈ GW := in_t3 (i := 33) rfl rfl
theorem im_X2_fail : Cond.instanceMethod yX2_fail ∈ GW := in_t3 (i := 35) rfl rfl
theorem se_X2_fail : Cond.selects RX2 yX2_fail yX2_fail ∈ GW := in_p1 (i := 4) rfl
theorem cd_X2_fail : Cond.code yX2_fail cX2_fail 3 none ∈ GW := in_t3 (i := 36) rfl rfl
theorem ml_X2_68 : Cond.methodLink RX2 68 yX2_parseNumber ∈ GW := in_t3 (i := 37) rfl rfl
theorem im_X2_parseNumber : Cond.instanceMethod yX2_parseNumber ∈ GW := in_t3 (i := 39) rfl rfl
theorem se_X2_parseNumber : Cond.selects RX2 yX2_parseNumber yX2_parseNumber ∈ GW := in_p1 (i := 5) rfl
theorem cd_X2_parseNumber : Cond.code yX2_parseNumber cX2_parseNumber 4 (some .int) ∈ GW := in_t3 (i := 40) rfl rfl
theorem ml_X2_58 : Cond.methodLink RX2 58 yX2_failHere ∈ GW := in_t3 (i := 41) rfl rfl
theorem im_X2_failHere : Cond.instanceMethod yX2_failHere ∈ GW := in_t3 (i := 43) rfl rfl
theorem se_X2_failHere : Cond.selects RX2 yX2_failHere yX2_failHere ∈ GW := in_p1 (i := 6) rfl
theorem cd_X2_failHere : Cond.code yX2_failHere cX2_failHere 1 none ∈ GW := in_t3 (i := 44) rfl rfl
theorem ml_X2_54 : Cond.methodLink RX2 54 yX2_expect ∈ GW := in_t3 (i := 45) rfl rfl
theorem im_X2_expect : Cond.instanceMethod yX2_expect ∈ GW := in_t3 (i := 47) rfl rfl
theorem se_X2_expect : Cond.selects RX2 yX2_expect yX2_expect ∈ GW := in_p1 (i := 7) rfl
theorem cd_X2_expect : Cond.code yX2_expect cX2_expect 2 none ∈ GW := in_t3 (i := 48) rfl rfl
theorem ml_X2_50 : Cond.methodLink RX2 50 yX2_accept ∈ GW := in_t3 (i := 49) rfl rfl
theorem im_X2_accept : Cond.instanceMethod yX2_accept ∈ GW := in_t3 (i := 51) rfl rfl
theorem se_X2_accept : Cond.selects RX2 yX2_accept yX2_accept ∈ GW := in_p1 (i := 8) rfl
theorem cd_X2_accept : Cond.code yX2_accept cX2_accept 2 (some .boolean) ∈ GW := in_t3 (i := 52) rfl rfl
theorem ml_L_97 : Cond.methodLink RL 97 yX4_fault ∈ GW := in_t4 (i := 99) rfl rfl
theorem im_X4_fault : Cond.instanceMethod yX4_fault ∈ GW := in_t4 (i := 100) rfl rfl
theorem se_X4_fault : Cond.selects RX4 yX4_fault yX4_fault ∈ GW := in_t4 (i := 101) rfl rfl
theorem cd_X4_fault : Cond.code yX4_fault cX4_fault 2 (some .int) ∈ GW := in_t4 (i := 102) rfl rfl
theorem fl_X4_194 : Cond.fieldLink RX4 194 "PantographArmModel" "at" "I" ∈ GW := in_t3 (i := 78) rfl rfl
theorem fl_X4_197 : Cond.fieldLink RX4 197 "PantographArmModel" "faultReason" "I" ∈ GW := in_t3 (i := 79) rfl rfl
theorem ml_X4_215 : Cond.methodLink RX4 215 yX4_readText ∈ GW := in_t4 (i := 103) rfl rfl
theorem im_X4_readText : Cond.instanceMethod yX4_readText ∈ GW := in_t4 (i := 105) rfl rfl
theorem se_X4_readText : Cond.selects RX4 yX4_readText yX4_readText ∈ GW := in_p3 (i := 5) rfl
theorem cd_X4_readText : Cond.code yX4_readText cX4_readText 6 (some .int) ∈ GW := in_t4 (i := 106) rfl rfl
theorem ml_X4_212 : Cond.methodLink RX4 212 yX4_readPoint ∈ GW := in_t4 (i := 107) rfl rfl
theorem im_X4_readPoint : Cond.instanceMethod yX4_readPoint ∈ GW := in_t4 (i := 109) rfl rfl
theorem se_X4_readPoint : Cond.selects RX4 yX4_readPoint yX4_readPoint ∈ GW := in_p3 (i := 6) rfl
theorem cd_X4_readPoint : Cond.code yX4_readPoint cX4_readPoint 4 (some .boolean) ∈ GW := in_t4 (i := 110) rfl rfl
theorem fl_X4_200 : Cond.fieldLink RX4 200 "PantographArmModel" "number" "I" ∈ GW := in_t3 (i := 80) rfl rfl
theorem ml_X4_203 : Cond.methodLink RX4 203 yX4_here ∈ GW := in_t4 (i := 111) rfl rfl
theorem im_X4_here : Cond.instanceMethod yX4_here ∈ GW := in_t4 (i := 113) rfl rfl
theorem se_X4_here : Cond.selects RX4 yX4_here yX4_here ∈ GW := in_p3 (i := 7) rfl
theorem cd_X4_here : Cond.code yX4_here cX4_here 1 (some .int) ∈ GW := in_t4 (i := 114) rfl rfl
theorem ml_X4_209 : Cond.methodLink RX4 209 yX4_readNumber ∈ GW := in_t4 (i := 115) rfl rfl
theorem im_X4_readNumber : Cond.instanceMethod yX4_readNumber ∈ GW := in_t4 (i := 117) rfl rfl
theorem se_X4_readNumber : Cond.selects RX4 yX4_readNumber yX4_readNumber ∈ GW := in_p3 (i := 8) rfl
theorem cd_X4_readNumber : Cond.code yX4_readNumber cX4_readNumber 2 (some .boolean) ∈ GW := in_t4 (i := 118) rfl rfl
theorem ml_X4_206 : Cond.methodLink RX4 206 yX4_isFault ∈ GW := in_t4 (i := 119) rfl rfl
theorem im_X4_isFault : Cond.instanceMethod yX4_isFault ∈ GW := in_t4 (i := 121) rfl rfl
theorem se_X4_isFault : Cond.selects RX4 yX4_isFault yX4_isFault ∈ GW := in_p3 (i := 9) rfl
theorem cd_X4_isFault : Cond.code yX4_isFault cX4_isFault 1 (some .boolean) ∈ GW := in_t4 (i := 122) rfl rfl
theorem ml_L_98 : Cond.methodLink RL 98 yX3_read ∈ GW := in_t3 (i := 53) rfl rfl
theorem im_X3_read : Cond.instanceMethod yX3_read ∈ GW := in_t3 (i := 54) rfl rfl
theorem se_X3_read : Cond.selects RX3 yX3_read yX3_read ∈ GW := in_t3 (i := 55) rfl rfl
theorem cd_X3_read : Cond.code yX3_read cX3_read 3 (some .int) ∈ GW := in_t3 (i := 56) rfl rfl
theorem ml_X3_225 : Cond.methodLink RX3 225 yX2_addPointsTo ∈ GW := in_t3 (i := 57) rfl rfl
theorem im_X2_addPointsTo : Cond.instanceMethod yX2_addPointsTo ∈ GW := in_t3 (i := 58) rfl rfl
theorem se_X2_addPointsTo : Cond.selects RX2 yX2_addPointsTo yX2_addPointsTo ∈ GW := in_t3 (i := 59) rfl rfl
theorem cd_X2_addPointsTo : Cond.code yX2_addPointsTo cX2_addPointsTo 3 none ∈ GW := in_t3 (i := 60) rfl rfl
theorem ml_X2_72 : Cond.methodLink RX2 72 yX1_add ∈ GW := in_t3 (i := 61) rfl rfl
theorem ml_L_101 : Cond.methodLink RL 101 yX4_read ∈ GW := in_t4 (i := 123) rfl rfl
theorem im_X4_read : Cond.instanceMethod yX4_read ∈ GW := in_t4 (i := 124) rfl rfl
theorem se_X4_read : Cond.selects RX4 yX4_read yX4_read ∈ GW := in_t4 (i := 125) rfl rfl
theorem cd_X4_read : Cond.code yX4_read cX4_read 4 (some .int) ∈ GW := in_t4 (i := 126) rfl rfl
def isN : Cond → Bool
  | .fieldLinkNest .. => true
  | .methodLinkNest .. => true
  | _ => false
/-- the words of members that nest mates reach -/
def nws : List Cond := tables_1.filter isN
theorem nws_tbl : ∀ w ∈ nws, w ∈ lw_tbl := fun _ h => List.mem_append_right _ (List.mem_filter.mp h).1
theorem nws_on {w : Cond} (h : w ∈ nws) : w.onTables = true := by
  have h2 := (List.mem_filter.mp h).2
  cases w <;> first | rfl | cases h2
theorem nws_warm {s U : State} (hW : s.WarmedH U.vm) (h : ∀ w ∈ nws, va_Nw w s) : ∀ w ∈ nws, va_Nw w U := by
  intro w hw
  have h1 := h w hw
  have h2 := (List.mem_filter.mp hw).2
  cases w <;> first | exact va_Nw.warmF hW h1 | exact va_Nw.warmM hW h1 | cases h2
theorem in_n1 {w : Cond} {i : Nat} (h0 : tables_1_1[i]? = some w) (g : isN w = true) : w ∈ nws := List.mem_filter.mpr ⟨(have h := List.mem_of_getElem? h0; List.mem_append_left _ h), g⟩
theorem in_n2 {w : Cond} {i : Nat} (h0 : tables_1_2[i]? = some w) (g : isN w = true) : w ∈ nws := List.mem_filter.mpr ⟨(have h := List.mem_of_getElem? h0; List.mem_append_right _ (List.mem_append_left _ h)), g⟩
theorem in_n3 {w : Cond} {i : Nat} (h0 : tables_1_3[i]? = some w) (g : isN w = true) : w ∈ nws := List.mem_filter.mpr ⟨(have h := List.mem_of_getElem? h0; List.mem_append_right _ (List.mem_append_right _ (List.mem_append_left _ h))), g⟩
theorem in_n4 {w : Cond} {i : Nat} (h0 : tables_1_4[i]? = some w) (g : isN w = true) : w ∈ nws := List.mem_filter.mpr ⟨(have h := List.mem_of_getElem? h0; List.mem_append_right _ (List.mem_append_right _ (List.mem_append_right _ (h)))), g⟩
theorem fn_X0_24 : Cond.fieldLinkNest RX0 24 "PantographArm" "FIRST_SETTING" "[I" "PantographArm" ∈ nws := in_n1 (i := 22) rfl rfl
theorem fn_X0_76 : Cond.fieldLinkNest RX0 76 "PantographArm$Drawing" "parent" "I" "PantographArm" ∈ nws := in_n1 (i := 32) rfl rfl
theorem fn_X3_133 : Cond.fieldLinkNest RX3 133 "PantographArm$Drawing" "parent" "I" "PantographArm" ∈ nws := in_n1 (i := 33) rfl rfl
theorem fn_X3_169 : Cond.fieldLinkNest RX3 169 "PantographArm$Drawing" "scale" "J" "PantographArm" ∈ nws := in_n1 (i := 35) rfl rfl
theorem fn_X0_134 : Cond.fieldLinkNest RX0 134 "PantographArm$Drawing" "scale" "J" "PantographArm" ∈ nws := in_n1 (i := 36) rfl rfl
theorem fn_X3_173 : Cond.fieldLinkNest RX3 173 "PantographArm$Drawing" "parts" "J" "PantographArm" ∈ nws := in_n1 (i := 38) rfl rfl
theorem fn_X0_90 : Cond.fieldLinkNest RX0 90 "PantographArm$Drawing" "parts" "J" "PantographArm" ∈ nws := in_n1 (i := 39) rfl rfl
theorem fn_X3_143 : Cond.fieldLinkNest RX3 143 "PantographArm$Drawing" "signX" "I" "PantographArm" ∈ nws := in_n1 (i := 41) rfl rfl
theorem fn_X0_137 : Cond.fieldLinkNest RX0 137 "PantographArm$Drawing" "signX" "I" "PantographArm" ∈ nws := in_n1 (i := 42) rfl rfl
theorem fn_X3_146 : Cond.fieldLinkNest RX3 146 "PantographArm$Drawing" "signY" "I" "PantographArm" ∈ nws := in_n1 (i := 44) rfl rfl
theorem fn_X0_142 : Cond.fieldLinkNest RX0 142 "PantographArm$Drawing" "signY" "I" "PantographArm" ∈ nws := in_n1 (i := 45) rfl rfl
theorem fn_X0_147 : Cond.fieldLinkNest RX0 147 "PantographArm$Drawing" "shiftX" "J" "PantographArm" ∈ nws := in_n1 (i := 47) rfl rfl
theorem fn_X0_154 : Cond.fieldLinkNest RX0 154 "PantographArm$Drawing" "shiftY" "J" "PantographArm" ∈ nws := in_n1 (i := 49) rfl rfl
theorem fn_X3_121 : Cond.fieldLinkNest RX3 121 "PantographArm$Drawing" "size" "I" "PantographArm" ∈ nws := in_n1 (i := 51) rfl rfl
theorem fn_X0_94 : Cond.fieldLinkNest RX0 94 "PantographArm$Drawing" "size" "I" "PantographArm" ∈ nws := in_n1 (i := 52) rfl rfl
theorem fn_X3_36 : Cond.fieldLinkNest RX3 36 "PantographArm$Desk" "a" "I" "PantographArm" ∈ nws := in_n1 (i := 82) rfl rfl
theorem fn_X3_39 : Cond.fieldLinkNest RX3 39 "PantographArm$Desk" "b" "I" "PantographArm" ∈ nws := in_n1 (i := 84) rfl rfl
theorem fn_X3_45 : Cond.fieldLinkNest RX3 45 "PantographArm$Desk" "pivotX" "I" "PantographArm" ∈ nws := in_n1 (i := 86) rfl rfl
theorem fn_X3_48 : Cond.fieldLinkNest RX3 48 "PantographArm$Desk" "pivotY" "I" "PantographArm" ∈ nws := in_n1 (i := 88) rfl rfl
theorem fn_X3_69 : Cond.fieldLinkNest RX3 69 "PantographArm$Desk" "wear" "I" "PantographArm" ∈ nws := in_n1 (i := 91) rfl rfl
theorem fn_X3_76 : Cond.fieldLinkNest RX3 76 "PantographArm$Desk" "sharpenings" "I" "PantographArm" ∈ nws := in_n1 (i := 93) rfl rfl
theorem fn_X3_79 : Cond.fieldLinkNest RX3 79 "PantographArm$Desk" "drawnLines" "I" "PantographArm" ∈ nws := in_n1 (i := 95) rfl rfl
theorem fn_X3_82 : Cond.fieldLinkNest RX3 82 "PantographArm$Desk" "drawnLength" "I" "PantographArm" ∈ nws := in_n1 (i := 97) rfl rfl
theorem fn_X3_85 : Cond.fieldLinkNest RX3 85 "PantographArm$Desk" "leftOut" "I" "PantographArm" ∈ nws := in_n1 (i := 99) rfl rfl
theorem fn_X3_66 : Cond.fieldLinkNest RX3 66 "PantographArm$Desk" "size" "I" "PantographArm" ∈ nws := in_n1 (i := 102) rfl rfl
theorem fn_X3_88 : Cond.fieldLinkNest RX3 88 "PantographArm$PointText" "length" "I" "PantographArm" ∈ nws := in_n1 (i := 137) rfl rfl
theorem fn_X3_219 : Cond.fieldLinkNest RX3 219 "PantographArm$PointText" "faultAt" "I" "PantographArm" ∈ nws := in_n1 (i := 140) rfl rfl
theorem fn_X3_222 : Cond.fieldLinkNest RX3 222 "PantographArm$PointText" "reason" "I" "PantographArm" ∈ nws := in_n1 (i := 142) rfl rfl
theorem mn_X0_99 : Cond.methodLinkNest RX0 99 yX3_quotient "PantographArm" ∈ nws := in_n2 (i := 26) rfl rfl
theorem mn_X1_91 : Cond.methodLinkNest RX1 91 yX3_lowest "PantographArm" ∈ nws := in_n2 (i := 114) rfl rfl
theorem mn_X1_81 : Cond.methodLinkNest RX1 81 yX3_quotient "PantographArm" ∈ nws := in_n2 (i := 141) rfl rfl
theorem uf_X0_0 : u_lay RX0 TX0 0 ∈ GW := in_t1 (i := 103) rfl rfl
theorem uf_X0_1 : u_lay RX0 TX0 1 ∈ GW := in_t1 (i := 105) rfl rfl
theorem uf_X0_2 : u_lay RX0 TX0 2 ∈ GW := in_t1 (i := 107) rfl rfl
theorem uf_X0_3 : u_lay RX0 TX0 3 ∈ GW := in_t1 (i := 109) rfl rfl
theorem uf_X0_4 : u_lay RX0 TX0 4 ∈ GW := in_t1 (i := 111) rfl rfl
theorem uf_X0_5 : u_lay RX0 TX0 5 ∈ GW := in_t1 (i := 113) rfl rfl
theorem uf_X0_6 : u_lay RX0 TX0 6 ∈ GW := in_t1 (i := 115) rfl rfl
theorem uf_X0_7 : u_lay RX0 TX0 7 ∈ GW := in_t1 (i := 117) rfl rfl
theorem uf_X0_8 : u_lay RX0 TX0 8 ∈ GW := in_t1 (i := 119) rfl rfl
theorem uf_X0_9 : u_lay RX0 TX0 9 ∈ GW := in_t1 (i := 121) rfl rfl
theorem uf_X0_10 : u_lay RX0 TX0 10 ∈ GW := in_t1 (i := 123) rfl rfl
theorem uf_X0_11 : u_lay RX0 TX0 11 ∈ GW := in_t1 (i := 125) rfl rfl
theorem inGX0 : ∀ w ∈ u_ws RX0 TX0 12, w ∈ GW := by
  intro w h
  obtain ⟨k, hk, rfl⟩ := List.mem_map.mp h
  have hk := List.mem_range.mp hk
  rcases (show k = 0 ∨ k = 1 ∨ k = 2 ∨ k = 3 ∨ k = 4 ∨ k = 5 ∨ k = 6 ∨ k = 7 ∨ k = 8 ∨ k = 9 ∨ k = 10 ∨ k = 11 by omega) with rfl | rfl | rfl | rfl | rfl | rfl | rfl | rfl | rfl | rfl | rfl | rfl
  · exact uf_X0_0
  · exact uf_X0_1
  · exact uf_X0_2
  · exact uf_X0_3
  · exact uf_X0_4
  · exact uf_X0_5
  · exact uf_X0_6
  · exact uf_X0_7
  · exact uf_X0_8
  · exact uf_X0_9
  · exact uf_X0_10
  · exact uf_X0_11
theorem uf_X1_0 : u_lay RX1 TX1 0 ∈ GW := in_t1 (i := 56) rfl rfl
theorem uf_X1_1 : u_lay RX1 TX1 1 ∈ GW := in_t1 (i := 58) rfl rfl
theorem uf_X1_2 : u_lay RX1 TX1 2 ∈ GW := in_t1 (i := 60) rfl rfl
theorem uf_X1_3 : u_lay RX1 TX1 3 ∈ GW := in_t1 (i := 62) rfl rfl
theorem uf_X1_4 : u_lay RX1 TX1 4 ∈ GW := in_t1 (i := 64) rfl rfl
theorem uf_X1_5 : u_lay RX1 TX1 5 ∈ GW := in_t1 (i := 66) rfl rfl
theorem uf_X1_6 : u_lay RX1 TX1 6 ∈ GW := in_t1 (i := 68) rfl rfl
theorem uf_X1_7 : u_lay RX1 TX1 7 ∈ GW := in_t1 (i := 70) rfl rfl
theorem uf_X1_8 : u_lay RX1 TX1 8 ∈ GW := in_t1 (i := 72) rfl rfl
theorem uf_X1_9 : u_lay RX1 TX1 9 ∈ GW := in_t1 (i := 74) rfl rfl
theorem uf_X1_10 : u_lay RX1 TX1 10 ∈ GW := in_t1 (i := 76) rfl rfl
theorem inGX1 : ∀ w ∈ u_ws RX1 TX1 11, w ∈ GW := by
  intro w h
  obtain ⟨k, hk, rfl⟩ := List.mem_map.mp h
  have hk := List.mem_range.mp hk
  rcases (show k = 0 ∨ k = 1 ∨ k = 2 ∨ k = 3 ∨ k = 4 ∨ k = 5 ∨ k = 6 ∨ k = 7 ∨ k = 8 ∨ k = 9 ∨ k = 10 by omega) with rfl | rfl | rfl | rfl | rfl | rfl | rfl | rfl | rfl | rfl | rfl
  · exact uf_X1_0
  · exact uf_X1_1
  · exact uf_X1_2
  · exact uf_X1_3
  · exact uf_X1_4
  · exact uf_X1_5
  · exact uf_X1_6
  · exact uf_X1_7
  · exact uf_X1_8
  · exact uf_X1_9
  · exact uf_X1_10
theorem uf_X2_0 : u_lay RX2 TX2 0 ∈ GW := in_t1 (i := 147) rfl rfl
theorem uf_X2_1 : u_lay RX2 TX2 1 ∈ GW := in_t1 (i := 149) rfl rfl
theorem uf_X2_2 : u_lay RX2 TX2 2 ∈ GW := in_t1 (i := 151) rfl rfl
theorem uf_X2_3 : u_lay RX2 TX2 3 ∈ GW := in_t1 (i := 153) rfl rfl
theorem uf_X2_4 : u_lay RX2 TX2 4 ∈ GW := in_t1 (i := 155) rfl rfl
theorem uf_X2_5 : u_lay RX2 TX2 5 ∈ GW := in_t1 (i := 157) rfl rfl
theorem uf_X2_6 : u_lay RX2 TX2 6 ∈ GW := in_t1 (i := 159) rfl rfl
theorem uf_X2_7 : u_lay RX2 TX2 7 ∈ GW := in_t1 (i := 161) rfl rfl
theorem uf_X2_8 : u_lay RX2 TX2 8 ∈ GW := in_t1 (i := 163) rfl rfl
theorem inGX2 : ∀ w ∈ u_ws RX2 TX2 9, w ∈ GW := by
  intro w h
  obtain ⟨k, hk, rfl⟩ := List.mem_map.mp h
  have hk := List.mem_range.mp hk
  rcases (show k = 0 ∨ k = 1 ∨ k = 2 ∨ k = 3 ∨ k = 4 ∨ k = 5 ∨ k = 6 ∨ k = 7 ∨ k = 8 by omega) with rfl | rfl | rfl | rfl | rfl | rfl | rfl | rfl | rfl
  · exact uf_X2_0
  · exact uf_X2_1
  · exact uf_X2_2
  · exact uf_X2_3
  · exact uf_X2_4
  · exact uf_X2_5
  · exact uf_X2_6
  · exact uf_X2_7
  · exact uf_X2_8
theorem uf_X3_0 : u_lay RX3 TX3 0 ∈ GW := in_t1 (i := 172) rfl rfl
theorem uf_X3_1 : u_lay RX3 TX3 1 ∈ GW := in_t1 (i := 174) rfl rfl
theorem uf_X3_2 : u_lay RX3 TX3 2 ∈ GW := in_t1 (i := 176) rfl rfl
theorem uf_X3_3 : u_lay RX3 TX3 3 ∈ GW := in_t1 (i := 178) rfl rfl
theorem inGX3 : ∀ w ∈ u_ws RX3 TX3 4, w ∈ GW := by
  intro w h
  obtain ⟨k, hk, rfl⟩ := List.mem_map.mp h
  have hk := List.mem_range.mp hk
  rcases (show k = 0 ∨ k = 1 ∨ k = 2 ∨ k = 3 by omega) with rfl | rfl | rfl | rfl
  · exact uf_X3_0
  · exact uf_X3_1
  · exact uf_X3_2
  · exact uf_X3_3
theorem uf_X4_0 : u_lay RX4 TX4 0 ∈ GW := in_t3 (i := 82) rfl rfl
theorem uf_X4_1 : u_lay RX4 TX4 1 ∈ GW := in_t3 (i := 84) rfl rfl
theorem uf_X4_2 : u_lay RX4 TX4 2 ∈ GW := in_t3 (i := 86) rfl rfl
theorem uf_X4_3 : u_lay RX4 TX4 3 ∈ GW := in_t3 (i := 88) rfl rfl
theorem uf_X4_4 : u_lay RX4 TX4 4 ∈ GW := in_t3 (i := 90) rfl rfl
theorem uf_X4_5 : u_lay RX4 TX4 5 ∈ GW := in_t3 (i := 92) rfl rfl
theorem uf_X4_6 : u_lay RX4 TX4 6 ∈ GW := in_t3 (i := 94) rfl rfl
theorem uf_X4_7 : u_lay RX4 TX4 7 ∈ GW := in_t3 (i := 96) rfl rfl
theorem uf_X4_8 : u_lay RX4 TX4 8 ∈ GW := in_t3 (i := 98) rfl rfl
theorem uf_X4_9 : u_lay RX4 TX4 9 ∈ GW := in_t3 (i := 100) rfl rfl
theorem uf_X4_10 : u_lay RX4 TX4 10 ∈ GW := in_t3 (i := 102) rfl rfl
theorem uf_X4_11 : u_lay RX4 TX4 11 ∈ GW := in_t3 (i := 104) rfl rfl
theorem inGX4 : ∀ w ∈ u_ws RX4 TX4 12, w ∈ GW := by
  intro w h
  obtain ⟨k, hk, rfl⟩ := List.mem_map.mp h
  have hk := List.mem_range.mp hk
  rcases (show k = 0 ∨ k = 1 ∨ k = 2 ∨ k = 3 ∨ k = 4 ∨ k = 5 ∨ k = 6 ∨ k = 7 ∨ k = 8 ∨ k = 9 ∨ k = 10 ∨ k = 11 by omega) with rfl | rfl | rfl | rfl | rfl | rfl | rfl | rfl | rfl | rfl | rfl | rfl
  · exact uf_X4_0
  · exact uf_X4_1
  · exact uf_X4_2
  · exact uf_X4_3
  · exact uf_X4_4
  · exact uf_X4_5
  · exact uf_X4_6
  · exact uf_X4_7
  · exact uf_X4_8
  · exact uf_X4_9
  · exact uf_X4_10
  · exact uf_X4_11
end
section
/-! a heap as functions: kinds and final references (T), ints, longs and references that change (V); E: class data, array classes, the base address, the static arrays -/
abbrev classes : List vw_C := [(RX0, TX0, 12), (RX1, TX1, 11), (RX2, TX2, 9), (RX3, TX3, 4), (RX4, TX4, 12)]
abbrev kd : Type := (Nat × Nat) ⊕ Nat
abbrev gT : Type := Nat × ((Nat → Option kd) × (Nat → Nat → Option Nat))
abbrev gV : Type := (Nat → Nat → Int32) × ((Nat → Nat → Int64) × (Nat → Nat → Option Nat))
abbrev gE : Type := va_G × ((Nat → ClassId) × (Nat × (Nat → Nat)))
abbrev gB (E : gE) : Nat := E.2.2.1
def aty (t : Nat) : FieldType := match t with
  | 0 => .int
  | 1 => .long
  | 2 => .object RX1
  | 3 => .object RX0
  | 4 => .char
  | _ => .boolean
def tyl (E : gE) : List (ClassId × FieldType) := [(E.2.1 0, .int), (E.2.1 1, .long), (E.2.1 2, .object RX1), (E.2.1 3, .object RX0), (E.2.1 4, .char), (E.2.1 5, .boolean)]
def arrv (V : gV) (a : Nat) (t : Nat) : (Nat → Int32) ⊕ (Nat → Int64) ⊕ (Nat → UInt32) ⊕ (Nat → UInt64) ⊕ (Nat → Option Nat) := match t with
  | 0 => .inl (V.1 a)
  | 1 => .inr (.inl (V.2.1 a))
  | 2 => .inr (.inr (.inr (.inr (V.2.2 a))))
  | 3 => .inr (.inr (.inr (.inr (V.2.2 a))))
  | _ => .inl (V.1 a)
def flds (T : gT) (V : gV) (a : Nat) (ci : Nat) : List Value := match ci with
  | 0 => [.int (V.1 a 0), .int (V.1 a 1), .int (V.1 a 2), .int (V.1 a 3), va_rf (T.2.2 a 4), .int (V.1 a 5), .int (V.1 a 6), .int (V.1 a 7), .int (V.1 a 8), .int (V.1 a 9), va_rf (T.2.2 a 10), .int (V.1 a 11)]
  | 1 => [.int (V.1 a 0), .long (V.2.1 a 1), .long (V.2.1 a 2), .int (V.1 a 3), .int (V.1 a 4), .long (V.2.1 a 5), .long (V.2.1 a 6), .int (V.1 a 7), va_rf (T.2.2 a 8), va_rf (T.2.2 a 9), va_rf (T.2.2 a 10)]
  | 2 => [va_rf (T.2.2 a 0), .int (V.1 a 1), .int (V.1 a 2), .int (V.1 a 3), .int (V.1 a 4), va_rf (T.2.2 a 5), va_rf (T.2.2 a 6), va_rf (T.2.2 a 7), .int (V.1 a 8)]
  | 3 => [va_rf (V.2.2 a 0), va_rf (T.2.2 a 1), .int (V.1 a 2), va_rf (T.2.2 a 3)]
  | _ => [va_rf (T.2.2 a 0), va_rf (T.2.2 a 1), va_rf (T.2.2 a 2), .int (V.1 a 3), va_rf (T.2.2 a 4), .int (V.1 a 5), .long (V.2.1 a 6), .long (V.2.1 a 7), .int (V.1 a 8), .int (V.1 a 9), .int (V.1 a 10), va_rf (T.2.2 a 11)]
def ent (E : gE) (T : gT) (V : gV) (a : Nat) (k : kd) : va_E := match k with
  | .inl q => .inl (E.2.1 q.1, q.2, arrv V a q.1)
  | .inr ci => .inr (ci, flds T V a ci)
def Rep (E : gE) (T : gT) (V : gV) (H : Heap) : Prop := T.1 = H.size ∧ ∀ (a : Nat) (k : kd), T.2.1 a = some k → gB E ≤ a ∧ va_at E.1 classes (a, ent E T V a k) H
abbrev gA (E : gE) : Nat → Prop := fun q => gB E ≤ q
def leastv (j : Nat) : Int32 := if j = 2 then 10 else if j = 3 then 10 else if j = 4 then 1 else 0
def mostv (j : Nat) : Int32 := if j = 0 then 2 else if j = 1 then 50 else 1000
def firstv (j : Nat) : Int32 := if j = 2 then 1000 else if j = 3 then 1000 else if j = 4 then 100 else 0
def Stc (E : gE) (U : State) (H : Heap) : Prop :=
  (va_Z "PantographArm" "LEAST_SETTING" "[I" (.ref (E.2.2.2 0)) (gA E) U H ∧ va_X (E.2.2.2 0) 5 leastv U H ∧ E.2.2.2 0 < gB E) ∧
  (va_Z "PantographArm" "MOST_SETTING" "[I" (.ref (E.2.2.2 1)) (gA E) U H ∧ va_X (E.2.2.2 1) 5 mostv U H ∧ E.2.2.2 1 < gB E) ∧
  (va_Z "PantographArm" "FIRST_SETTING" "[I" (.ref (E.2.2.2 2)) (gA E) U H ∧ va_X (E.2.2.2 2) 5 firstv U H ∧ E.2.2.2 2 < gB E)
def RepS (E : gE) (T : gT) (V : gV) (U : State) : Prop := Rep E T V U.heap ∧ gB E ≤ U.heap.size ∧ va_K E.1 classes (tyl E) U ∧ Stc E U U.heap ∧ va_AO RX0 U ∧ va_AO RX1 U ∧ ∀ w ∈ nws, va_Nw w U
theorem Stc.moved {E : gE} {u U : State} {H H1 : Heap} (hvm : u.vm.Alike U.vm) (h : Stc E u H) (hz : gB E ≤ H.size) (hq : ∀ a : Nat, a < H.size → ¬ gA E a → H1[a]? = H[a]?) : Stc E U H1 := by
  have key : ∀ b : Nat, b < gB E → H1[b]? = H[b]? := fun b hb => hq b (Nat.lt_of_lt_of_le hb hz) (Nat.not_le.mpr hb)
  obtain ⟨⟨a1, a2, a3⟩, ⟨b1, b2, b3⟩, c1, c2, c3⟩ := h
  exact ⟨⟨(a1.kept hq).moved hvm, (a2.kept (key _ a3)).moved hvm, a3⟩, ⟨(b1.kept hq).moved hvm, (b2.kept (key _ b3)).moved hvm, b3⟩, (c1.kept hq).moved hvm, (c2.kept (key _ c3)).moved hvm, c3⟩
theorem Stc.calling {E : gE} {U : State} {H : Heap} {g : JFrame} {mk : MethodId} {a : Array Value} (h : Stc E U H) : Stc E (U.calling g mk a) H := by
  obtain ⟨⟨a1, a2, a3⟩, ⟨b1, b2, b3⟩, c1, c2, c3⟩ := h
  have e : U.vm.Alike (U.calling g mk a).vm := Vm.Alike.refl U.vm
  exact ⟨⟨a1.moved e, a2.moved e, a3⟩, ⟨b1.moved e, b2.moved e, b3⟩, c1.moved e, c2.moved e, c3⟩
theorem RepS.blind {E : gE} {T : gT} {V : gV} {av : List Value} : FrameBlind (va_Pc av (RepS E T V)) := by
  intro a U g mk h
  obtain ⟨h0, h1, h2, h3, h4, h5, h6, h7⟩ := h
  have e : U.vm.Alike (U.calling g mk a).vm := Vm.Alike.refl U.vm
  exact ⟨h0, h1, h2, va_K.moved (u := U) (U := U.calling g mk a) e h3, h4.calling, h5.moved e, h6.moved e, fun w hw => va_Nw.same (nws_on hw) (u := U) (U := U.calling g mk a) rfl (h7 w hw)⟩
/-- what a method knows of its start, the whole way -/
def Cx (E : gE) (p : Program) (s : State) (m : MethodId) (args : Array Value) (meth : Method) (c : Code) (own : String) (cc : ByteArray) (nL : Nat) (ret : Option FieldType) : Prop :=
  p.tables.exec = Jvm.exec ∧ c.code = cc ∧ c.maxLocals = nL ∧ s.vm.findClass own = some m.cls ∧ (∀ w ∈ GW, w.before args s = true) ∧ meth.locks = false ∧ va_K E.1 classes (tyl E) s ∧ Stc E s s.heap ∧ va_AO RX0 s ∧ va_AO RX1 s ∧ gB E ≤ s.heap.size ∧ meth.sig.returnType = ret ∧ ∀ w ∈ nws, va_Nw w s
section CXS
variable {E : gE} {p : Program} {s : State} {m : MethodId} {args : Array Value} {meth : Method} {c : Code} {own : String} {cc : ByteArray} {nL : Nat} {ret : Option FieldType}
theorem Cx.x (C : Cx E p s m args meth c own cc nL ret) : p.tables.exec = Jvm.exec := C.1
theorem Cx.b (C : Cx E p s m args meth c own cc nL ret) : c.code = cc := C.2.1
theorem Cx.ml (C : Cx E p s m args meth c own cc nL ret) : c.maxLocals = nL := C.2.2.1
theorem Cx.ow (C : Cx E p s m args meth c own cc nL ret) : s.vm.findClass own = some m.cls := C.2.2.2.1
theorem Cx.ts (C : Cx E p s m args meth c own cc nL ret) : ∀ w ∈ GW, w.before args s = true := C.2.2.2.2.1
theorem Cx.lk (C : Cx E p s m args meth c own cc nL ret) : meth.locks = false := C.2.2.2.2.2.1
theorem Cx.K (C : Cx E p s m args meth c own cc nL ret) : va_K E.1 classes (tyl E) s := C.2.2.2.2.2.2.1
theorem Cx.st (C : Cx E p s m args meth c own cc nL ret) : Stc E s s.heap := C.2.2.2.2.2.2.2.1
theorem Cx.ao0 (C : Cx E p s m args meth c own cc nL ret) : va_AO RX0 s := C.2.2.2.2.2.2.2.2.1
theorem Cx.ao1 (C : Cx E p s m args meth c own cc nL ret) : va_AO RX1 s := C.2.2.2.2.2.2.2.2.2.1
theorem Cx.bs (C : Cx E p s m args meth c own cc nL ret) : gB E ≤ s.heap.size := C.2.2.2.2.2.2.2.2.2.2.1
theorem Cx.re (C : Cx E p s m args meth c own cc nL ret) : meth.sig.returnType = ret := C.2.2.2.2.2.2.2.2.2.2.2.1
theorem Cx.nw (C : Cx E p s m args meth c own cc nL ret) : ∀ w ∈ nws, va_Nw w s := C.2.2.2.2.2.2.2.2.2.2.2.2
theorem Cx.out {T : gT} {V : gV} {H : Heap} {locs : List Loc} (C : Cx E p s m args meth c own cc nL ret) (hS : va_S (gA E) s.heap H locs) (hR : Rep E T V H) {t : State} (ht : t.heap = H) (hW : s.WarmedH t.vm) : RepS E T V t := by
  have hvm := hW.alike
  refine ⟨by rw [ht]; exact hR, by rw [ht]; exact Nat.le_trans C.bs hS.1, va_K.moved hvm C.K, ?_, C.ao0.moved hvm, C.ao1.moved hvm, nws_warm hW C.nw⟩
  rw [ht]
  exact C.st.moved hvm C.bs (fun a h1 h2 => hS.2.1 a h1 h2)
end CXS
/-- the walk stands at pc, with these locals and this stack, over a heap that the functions describe -/
def KW (E : gE) (T : gT) (V : gV) (p : Program) (l : Launch) (e : Env) (R : Room) (s : State) (m : MethodId) (args : Array Value) (below : List Frame) (meth : Method) (c : Code) (nL k n : Nat) (Q : State → Prop) (pc : Nat) (L : List (Nat × Value)) (st : List Value) : Prop :=
  ∀ (H : Heap) (ls : Array Slot) (locs : List Loc), Rep E T V H → va_S (gA E) s.heap H locs → lv_has ls nL L → W p l e R s m args below meth c H locs k n Q (F0 m pc ls st)
/-- what is known of a class of ours -/
def CI (ci : Nat) (Cn : String) (Tt : u_T) (N : Nat) (ty : Nat → FieldType) : Prop := classes[ci]? = some (Cn, Tt, N) ∧ (∀ w ∈ u_ws Cn Tt N, w ∈ GW) ∧ (∀ k, k < N → parseFieldDescriptor (Tt k).2.2.1 = some (ty k)) ∧ (∀ a, a < N → ∀ b, b < N → a ≠ b → (Tt a).2.1 ≠ (Tt b).2.1) ∧ ∀ (T : gT) (V : gV) (a : Nat), (flds T V a ci).length = N
theorem ci_X0 : CI 0 RX0 TX0 12 tyX0 := ⟨rfl, inGX0, tyX0_ok, nmX0, fun _ _ _ => rfl⟩
theorem ci_X1 : CI 1 RX1 TX1 11 tyX1 := ⟨rfl, inGX1, tyX1_ok, nmX1, fun _ _ _ => rfl⟩
theorem ci_X2 : CI 2 RX2 TX2 9 tyX2 := ⟨rfl, inGX2, tyX2_ok, nmX2, fun _ _ _ => rfl⟩
theorem ci_X3 : CI 3 RX3 TX3 4 tyX3 := ⟨rfl, inGX3, tyX3_ok, nmX3, fun _ _ _ => rfl⟩
theorem ci_X4 : CI 4 RX4 TX4 12 tyX4 := ⟨rfl, inGX4, tyX4_ok, nmX4, fun _ _ _ => rfl⟩
def tO (T : gT) (a ci : Nat) : Prop := T.2.1 a = some (.inr ci)
def tA (T : gT) (a t n : Nat) : Prop := T.2.1 a = some (.inl (t, n))
def tF (T : gT) (a k b : Nat) : Prop := T.2.2 a k = some b
/-- one place written -/
def wI (V : gV) (a k : Nat) (x : Int32) : gV := (fun b => if b = a then upd (V.1 a) k x else V.1 b, V.2)
def wL (V : gV) (a k : Nat) (x : Int64) : gV := (V.1, (fun b => if b = a then vp_updL (V.2.1 a) k x else V.2.1 b, V.2.2))
def wR (V : gV) (a k : Nat) (x : Option Nat) : gV := (V.1, (V.2.1, fun b => if b = a then va_up (V.2.2 a) k x else V.2.2 b))
theorem ent_congr {E : gE} {T : gT} {V V' : gV} {b : Nat} {k : kd} (h1 : V'.1 b = V.1 b) (h2 : V'.2.1 b = V.2.1 b) (h3 : V'.2.2 b = V.2.2 b) : ent E T V' b k = ent E T V b k := by
  cases k with
  | inl q => simp only [ent, arrv, h1, h2, h3]
  | inr ci => simp only [ent, flds, h1, h2, h3]
theorem Rep.put {E : gE} {T : gT} {V V' : gV} {H H1 : Heap} {a : Nat} (hR : Rep E T V H) (z : H1.size = H.size) (oq : ∀ q : Nat, q ≠ a → H1[q]? = H[q]?)
    (hs : ∀ b : Nat, b ≠ a → V'.1 b = V.1 b ∧ V'.2.1 b = V.2.1 b ∧ V'.2.2 b = V.2.2 b) (ha : ∀ k, T.2.1 a = some k → va_at E.1 classes (a, ent E T V' a k) H1) : Rep E T V' H1 := by
  refine ⟨hR.1.trans z.symm, fun b k hk => ?_⟩
  obtain ⟨h1, h2⟩ := hR.2 b k hk
  refine ⟨h1, ?_⟩
  by_cases e : b = a
  · subst e
    exact ha k hk
  · obtain ⟨e1, e2, e3⟩ := hs b e
    rw [ent_congr e1 e2 e3]
    exact h2.kept (oq b e)
theorem wI_off {V : gV} {a k : Nat} {x : Int32} : ∀ b : Nat, b ≠ a → (wI V a k x).1 b = V.1 b ∧ (wI V a k x).2.1 b = V.2.1 b ∧ (wI V a k x).2.2 b = V.2.2 b := fun b h => ⟨if_neg h, rfl, rfl⟩
theorem wL_off {V : gV} {a k : Nat} {x : Int64} : ∀ b : Nat, b ≠ a → (wL V a k x).1 b = V.1 b ∧ (wL V a k x).2.1 b = V.2.1 b ∧ (wL V a k x).2.2 b = V.2.2 b := fun b h => ⟨rfl, if_neg h, rfl⟩
theorem wR_off {V : gV} {a k : Nat} {x : Option Nat} : ∀ b : Nat, b ≠ a → (wR V a k x).1 b = V.1 b ∧ (wR V a k x).2.1 b = V.2.1 b ∧ (wR V a k x).2.2 b = V.2.2 b := fun b h => ⟨rfl, rfl, if_neg h⟩
section KWS
variable {E : gE} {T : gT} {V : gV} {p : Program} {l : Launch} {e : Env} {R : Room} {s : State} {m : MethodId} {args : Array Value} {below : List Frame} {meth : Method} {c : Code} {own : String} {cc : ByteArray} {nL : Nat} {ret : Option FieldType} {k n : Nat} {Q : State → Prop} {L : List (Nat × Value)} {st : List Value}

theorem k_iadd (pc q : Nat) (C : Cx E p s m args meth c own cc nL ret) {x y : Int32} (hd : decode cc pc = .ok (.iadd, 1)) (hq : pc + 1 = q)  (K : KW E T V p l e R s m args below meth c nL k n Q q L (.int (x + y) :: st)) : KW E T V p l e R s m args below meth c nL k n Q pc L (.int y :: .int x :: st) := by
  subst hq
  intro H ls locs hR hS hl
  exact lv_iadd C.x C.b hd (K H ls locs hR hS hl)
theorem k_isub (pc q : Nat) (C : Cx E p s m args meth c own cc nL ret) {x y : Int32} (hd : decode cc pc = .ok (.isub, 1)) (hq : pc + 1 = q)  (K : KW E T V p l e R s m args below meth c nL k n Q q L (.int (x - y) :: st)) : KW E T V p l e R s m args below meth c nL k n Q pc L (.int y :: .int x :: st) := by
  subst hq
  intro H ls locs hR hS hl
  exact lv_isub C.x C.b hd (K H ls locs hR hS hl)
theorem k_imul (pc q : Nat) (C : Cx E p s m args meth c own cc nL ret) {x y : Int32} (hd : decode cc pc = .ok (.imul, 1)) (hq : pc + 1 = q)  (K : KW E T V p l e R s m args below meth c nL k n Q q L (.int (x * y) :: st)) : KW E T V p l e R s m args below meth c nL k n Q pc L (.int y :: .int x :: st) := by
  subst hq
  intro H ls locs hR hS hl
  exact lv_imul C.x C.b hd (K H ls locs hR hS hl)
theorem k_iand (pc q : Nat) (C : Cx E p s m args meth c own cc nL ret) {x y : Int32} (hd : decode cc pc = .ok (.iand, 1)) (hq : pc + 1 = q)  (K : KW E T V p l e R s m args below meth c nL k n Q q L (.int (x &&& y) :: st)) : KW E T V p l e R s m args below meth c nL k n Q pc L (.int y :: .int x :: st) := by
  subst hq
  intro H ls locs hR hS hl
  exact lv_iand C.x C.b hd (K H ls locs hR hS hl)
theorem k_ishl (pc q : Nat) (C : Cx E p s m args meth c own cc nL ret) {x y : Int32} (hd : decode cc pc = .ok (.ishl, 1)) (hq : pc + 1 = q)  (K : KW E T V p l e R s m args below meth c nL k n Q q L (.int (x <<< (y &&& 31)) :: st)) : KW E T V p l e R s m args below meth c nL k n Q pc L (.int y :: .int x :: st) := by
  subst hq
  intro H ls locs hR hS hl
  exact lv_ishl C.x C.b hd (K H ls locs hR hS hl)
theorem k_idiv (pc q : Nat) (C : Cx E p s m args meth c own cc nL ret) {x y : Int32} (hd : decode cc pc = .ok (.idiv, 1)) (hq : pc + 1 = q) (hne : ¬ y = 0) (K : KW E T V p l e R s m args below meth c nL k n Q q L (.int (x / y) :: st)) : KW E T V p l e R s m args below meth c nL k n Q pc L (.int y :: .int x :: st) := by
  subst hq
  intro H ls locs hR hS hl
  exact lv_idiv C.x C.b hd hne (K H ls locs hR hS hl)
theorem k_irem (pc q : Nat) (C : Cx E p s m args meth c own cc nL ret) {x y : Int32} (hd : decode cc pc = .ok (.irem, 1)) (hq : pc + 1 = q) (hne : ¬ y = 0) (K : KW E T V p l e R s m args below meth c nL k n Q q L (.int (x - x / y * y) :: st)) : KW E T V p l e R s m args below meth c nL k n Q pc L (.int y :: .int x :: st) := by
  subst hq
  intro H ls locs hR hS hl
  exact lv_irem C.x C.b hd hne (K H ls locs hR hS hl)
theorem k_ladd (pc q : Nat) (C : Cx E p s m args meth c own cc nL ret) {x y : Int64} (hd : decode cc pc = .ok (.ladd, 1)) (hq : pc + 1 = q)  (K : KW E T V p l e R s m args below meth c nL k n Q q L (.long (x + y) :: st)) : KW E T V p l e R s m args below meth c nL k n Q pc L (.long y :: .long x :: st) := by
  subst hq
  intro H ls locs hR hS hl
  exact lv_ladd C.x C.b hd (K H ls locs hR hS hl)
theorem k_lsub (pc q : Nat) (C : Cx E p s m args meth c own cc nL ret) {x y : Int64} (hd : decode cc pc = .ok (.lsub, 1)) (hq : pc + 1 = q)  (K : KW E T V p l e R s m args below meth c nL k n Q q L (.long (x - y) :: st)) : KW E T V p l e R s m args below meth c nL k n Q pc L (.long y :: .long x :: st) := by
  subst hq
  intro H ls locs hR hS hl
  exact lv_lsub C.x C.b hd (K H ls locs hR hS hl)
theorem k_lmul (pc q : Nat) (C : Cx E p s m args meth c own cc nL ret) {x y : Int64} (hd : decode cc pc = .ok (.lmul, 1)) (hq : pc + 1 = q)  (K : KW E T V p l e R s m args below meth c nL k n Q q L (.long (x * y) :: st)) : KW E T V p l e R s m args below meth c nL k n Q pc L (.long y :: .long x :: st) := by
  subst hq
  intro H ls locs hR hS hl
  exact lv_lmul C.x C.b hd (K H ls locs hR hS hl)
theorem k_ldiv (pc q : Nat) (C : Cx E p s m args meth c own cc nL ret) {x y : Int64} (hd : decode cc pc = .ok (.ldiv, 1)) (hq : pc + 1 = q) (hne : ¬ y = 0) (K : KW E T V p l e R s m args below meth c nL k n Q q L (.long (x / y) :: st)) : KW E T V p l e R s m args below meth c nL k n Q pc L (.long y :: .long x :: st) := by
  subst hq
  intro H ls locs hR hS hl
  exact lv_ldiv C.x C.b hd hne (K H ls locs hR hS hl)
theorem k_lrem (pc q : Nat) (C : Cx E p s m args meth c own cc nL ret) {x y : Int64} (hd : decode cc pc = .ok (.lrem, 1)) (hq : pc + 1 = q) (hne : ¬ y = 0) (K : KW E T V p l e R s m args below meth c nL k n Q q L (.long (x - x / y * y) :: st)) : KW E T V p l e R s m args below meth c nL k n Q pc L (.long y :: .long x :: st) := by
  subst hq
  intro H ls locs hR hS hl
  exact lv_lrem C.x C.b hd hne (K H ls locs hR hS hl)
theorem k_lneg (pc q : Nat) (C : Cx E p s m args meth c own cc nL ret) {x : Int64} (hd : decode cc pc = .ok (.lneg, 1)) (hq : pc + 1 = q)  (K : KW E T V p l e R s m args below meth c nL k n Q q L (.long (-x) :: st)) : KW E T V p l e R s m args below meth c nL k n Q pc L (.long x :: st) := by
  subst hq
  intro H ls locs hR hS hl
  exact lv_lneg C.x C.b hd (K H ls locs hR hS hl)
theorem k_i2l (pc q : Nat) (C : Cx E p s m args meth c own cc nL ret) {x : Int32} (hd : decode cc pc = .ok (.i2l, 1)) (hq : pc + 1 = q)  (K : KW E T V p l e R s m args below meth c nL k n Q q L (.long x.toInt64 :: st)) : KW E T V p l e R s m args below meth c nL k n Q pc L (.int x :: st) := by
  subst hq
  intro H ls locs hR hS hl
  exact lv_i2l C.x C.b hd rfl (K H ls locs hR hS hl)
theorem k_l2i (pc q : Nat) (C : Cx E p s m args meth c own cc nL ret) {x : Int64} (hd : decode cc pc = .ok (.l2i, 1)) (hq : pc + 1 = q)  (K : KW E T V p l e R s m args below meth c nL k n Q q L (.int x.toInt32 :: st)) : KW E T V p l e R s m args below meth c nL k n Q pc L (.long x :: st) := by
  subst hq
  intro H ls locs hR hS hl
  exact lv_l2i C.x C.b hd rfl (K H ls locs hR hS hl)
theorem k_l2f (pc q : Nat) (C : Cx E p s m args meth c own cc nL ret) {x : Int64} (hd : decode cc pc = .ok (.l2f, 1)) (hq : pc + 1 = q)  (K : KW E T V p l e R s m args below meth c nL k n Q q L (.float (FP.l2f x) :: st)) : KW E T V p l e R s m args below meth c nL k n Q pc L (.long x :: st) := by
  subst hq
  intro H ls locs hR hS hl
  exact lv_l2f C.x C.b hd (K H ls locs hR hS hl)
theorem k_f2i (pc q : Nat) (C : Cx E p s m args meth c own cc nL ret) {x : UInt32} (hd : decode cc pc = .ok (.f2i, 1)) (hq : pc + 1 = q)  (K : KW E T V p l e R s m args below meth c nL k n Q q L (.int (FP.f2i x) :: st)) : KW E T V p l e R s m args below meth c nL k n Q pc L (.float x :: st) := by
  subst hq
  intro H ls locs hR hS hl
  exact lv_f2i C.x C.b hd (K H ls locs hR hS hl)
theorem k_i2c (pc q : Nat) (C : Cx E p s m args meth c own cc nL ret) {x : Int32} (hd : decode cc pc = .ok (.i2c, 1)) (hq : pc + 1 = q)  (K : KW E T V p l e R s m args below meth c nL k n Q q L (.int (x.toUInt32 % 65536).toInt32 :: st)) : KW E T V p l e R s m args below meth c nL k n Q pc L (.int x :: st) := by
  subst hq
  intro H ls locs hR hS hl
  exact lv_i2c C.x C.b hd rfl (K H ls locs hR hS hl)
theorem k_fdiv (pc q : Nat) (C : Cx E p s m args meth c own cc nL ret) {x y : UInt32} (hd : decode cc pc = .ok (.fdiv, 1)) (hq : pc + 1 = q) (hne : vf_n32 (FP.fdiv x y)) (K : KW E T V p l e R s m args below meth c nL k n Q q L (.float (FP.fdiv x y) :: st)) : KW E T V p l e R s m args below meth c nL k n Q pc L (.float y :: .float x :: st) := by
  subst hq
  intro H ls locs hR hS hl
  exact lv_fdiv C.x C.b hd hne (K H ls locs hR hS hl)
theorem k_fmul (pc q : Nat) (C : Cx E p s m args meth c own cc nL ret) {x y : UInt32} (hd : decode cc pc = .ok (.fmul, 1)) (hq : pc + 1 = q) (hne : vf_n32 (FP.fmul x y)) (K : KW E T V p l e R s m args below meth c nL k n Q q L (.float (FP.fmul x y) :: st)) : KW E T V p l e R s m args below meth c nL k n Q pc L (.float y :: .float x :: st) := by
  subst hq
  intro H ls locs hR hS hl
  exact lv_fmul C.x C.b hd hne (K H ls locs hR hS hl)
theorem k_fsub (pc q : Nat) (C : Cx E p s m args meth c own cc nL ret) {x y : UInt32} (hd : decode cc pc = .ok (.fsub, 1)) (hq : pc + 1 = q) (hne : vf_n32 (FP.fsub x y)) (K : KW E T V p l e R s m args below meth c nL k n Q q L (.float (FP.fsub x y) :: st)) : KW E T V p l e R s m args below meth c nL k n Q pc L (.float y :: .float x :: st) := by
  subst hq
  intro H ls locs hR hS hl
  exact lv_fsub C.x C.b hd hne (K H ls locs hR hS hl)
theorem k_fcmp (pc q : Nat) (C : Cx E p s m args meth c own cc nL ret) {x y : UInt32} {op : CmpOp} (hd : decode cc pc = .ok (.fcmp op, 1)) (hq : pc + 1 = q)  (K : KW E T V p l e R s m args below meth c nL k n Q q L (.int (Op.cmpValue (FP.fcmp x y) op) :: st)) : KW E T V p l e R s m args below meth c nL k n Q pc L (.float y :: .float x :: st) := by
  subst hq
  intro H ls locs hR hS hl
  exact lv_fcmp C.x C.b hd (K H ls locs hR hS hl)
theorem k_lcmp (pc q : Nat) (C : Cx E p s m args meth c own cc nL ret) {x y : Int64} (hd : decode cc pc = .ok (.lcmp, 1)) (hq : pc + 1 = q)  (K : KW E T V p l e R s m args below meth c nL k n Q q L (.int (lg_cmp x y) :: st)) : KW E T V p l e R s m args below meth c nL k n Q pc L (.long y :: .long x :: st) := by
  subst hq
  intro H ls locs hR hS hl
  exact W.lcmp C.x C.b hd (K H ls locs hR hS hl)
theorem k_dup (pc q : Nat) (C : Cx E p s m args meth c own cc nL ret) {v : Value} (hd : decode cc pc = .ok (.dup, 1)) (hq : pc + 1 = q) (hc : v.category = 1) (K : KW E T V p l e R s m args below meth c nL k n Q q L (v :: v :: st)) : KW E T V p l e R s m args below meth c nL k n Q pc L (v :: st) := by
  subst hq
  intro H ls locs hR hS hl
  exact lv_dup C.x C.b hd hc (K H ls locs hR hS hl)
theorem k_dup2 (pc q : Nat) (C : Cx E p s m args meth c own cc nL ret) {v w : Value} (hd : decode cc pc = .ok (.dup2, 1)) (hq : pc + 1 = q) (hc : v.category = 1) (hc2 : w.category = 1) (K : KW E T V p l e R s m args below meth c nL k n Q q L (v :: w :: v :: w :: st)) : KW E T V p l e R s m args below meth c nL k n Q pc L (v :: w :: st) := by
  subst hq
  intro H ls locs hR hS hl
  exact lv_dup2_11 C.x C.b hd hc hc2 (K H ls locs hR hS hl)
theorem k_iconst (pc q : Nat) (C : Cx E p s m args meth c own cc nL ret) {z : Int} {v : Int32} (hd : decode cc pc = .ok (.iconst z, 1)) (hq : pc + 1 = q) (hv : Int32.ofInt z = v) (K : KW E T V p l e R s m args below meth c nL k n Q q L (.int v :: st)) : KW E T V p l e R s m args below meth c nL k n Q pc L (st) := by
  subst hq
  intro H ls locs hR hS hl
  exact lv_iconst C.x C.b hd hv (K H ls locs hR hS hl)
theorem k_bipush (pc q : Nat) (C : Cx E p s m args meth c own cc nL ret) {z : Int} {v : Int32} (hd : decode cc pc = .ok (.bipush z, 2)) (hq : pc + 2 = q) (hv : (Int8.ofInt z).toInt32 = v) (K : KW E T V p l e R s m args below meth c nL k n Q q L (.int v :: st)) : KW E T V p l e R s m args below meth c nL k n Q pc L (st) := by
  subst hq
  intro H ls locs hR hS hl
  exact lv_bipush C.x C.b hd hv (K H ls locs hR hS hl)
theorem k_sipush (pc q : Nat) (C : Cx E p s m args meth c own cc nL ret) {z : Int} {v : Int32} (hd : decode cc pc = .ok (.sipush z, 3)) (hq : pc + 3 = q) (hv : (Int16.ofInt z).toInt32 = v) (K : KW E T V p l e R s m args below meth c nL k n Q q L (.int v :: st)) : KW E T V p l e R s m args below meth c nL k n Q pc L (st) := by
  subst hq
  intro H ls locs hR hS hl
  exact lv_sipush C.x C.b hd hv (K H ls locs hR hS hl)
theorem k_lconst (pc q : Nat) (C : Cx E p s m args meth c own cc nL ret) {z : Fin 2} {v : Int64} (hd : decode cc pc = .ok (.lconst z, 1)) (hq : pc + 1 = q) (hv : Int64.ofNat (z : Nat) = v) (K : KW E T V p l e R s m args below meth c nL k n Q q L (.long v :: st)) : KW E T V p l e R s m args below meth c nL k n Q pc L (st) := by
  subst hq
  intro H ls locs hR hS hl
  exact lv_lconst C.x C.b hd hv (K H ls locs hR hS hl)
theorem k_ldc (pc q : Nat) (C : Cx E p s m args meth c own cc nL ret) {ix : Nat} {v : Int32} (hd : decode cc pc = .ok (.ldc ix, 2)) (hq : pc + 2 = q) (hw : Cond.constant own ix v ∈ GW) (K : KW E T V p l e R s m args below meth c nL k n Q q L (.int v :: st)) : KW E T V p l e R s m args below meth c nL k n Q pc L (st) := by
  subst hq
  intro H ls locs hR hS hl
  exact lv_ldc C.x C.b C.ow (C.ts _ hw) hd (K H ls locs hR hS hl)
theorem k_ldcf (pc q : Nat) (C : Cx E p s m args meth c own cc nL ret) {ix : Nat} {v : UInt32} (hd : decode cc pc = .ok (.ldc ix, 2)) (hq : pc + 2 = q) (hw : Cond.constantFloat own ix v ∈ GW) (K : KW E T V p l e R s m args below meth c nL k n Q q L (.float v :: st)) : KW E T V p l e R s m args below meth c nL k n Q pc L (st) := by
  subst hq
  intro H ls locs hR hS hl
  exact lv_ldcf C.x C.b C.ow (C.ts _ hw) hd (K H ls locs hR hS hl)
theorem k_ldc2 (pc q : Nat) (C : Cx E p s m args meth c own cc nL ret) {ix : Nat} {v : Int64} (hd : decode cc pc = .ok (.ldc2_w ix, 3)) (hq : pc + 3 = q) (hw : Cond.constantLong own ix v ∈ GW) (K : KW E T V p l e R s m args below meth c nL k n Q q L (.long v :: st)) : KW E T V p l e R s m args below meth c nL k n Q pc L (st) := by
  subst hq
  intro H ls locs hR hS hl
  exact lv_ldc2 C.x C.b C.ow (C.ts _ hw) hd (K H ls locs hR hS hl)
theorem k_null (pc q : Nat) (C : Cx E p s m args meth c own cc nL ret)  (hd : decode cc pc = .ok (.aconst_null, 1)) (hq : pc + 1 = q)  (K : KW E T V p l e R s m args below meth c nL k n Q q L (.null :: st)) : KW E T V p l e R s m args below meth c nL k n Q pc L (st) := by
  subst hq
  intro H ls locs hR hS hl
  exact lv_null C.x C.b hd (K H ls locs hR hS hl)
theorem k_fconst1 (pc q : Nat) (C : Cx E p s m args meth c own cc nL ret)  (hd : decode cc pc = .ok (.fconst 1, 1)) (hq : pc + 1 = q)  (K : KW E T V p l e R s m args below meth c nL k n Q q L (.float FP.fconst1 :: st)) : KW E T V p l e R s m args below meth c nL k n Q pc L (st) := by
  subst hq
  intro H ls locs hR hS hl
  exact lv_fconst1 C.x C.b hd (K H ls locs hR hS hl)
theorem k_fconst2 (pc q : Nat) (C : Cx E p s m args meth c own cc nL ret)  (hd : decode cc pc = .ok (.fconst 2, 1)) (hq : pc + 1 = q)  (K : KW E T V p l e R s m args below meth c nL k n Q q L (.float FP.fconst2 :: st)) : KW E T V p l e R s m args below meth c nL k n Q pc L (st) := by
  subst hq
  intro H ls locs hR hS hl
  exact lv_fconst2 C.x C.b hd (K H ls locs hR hS hl)
theorem k_iload_n (pc q : Nat) (C : Cx E p s m args meth c own cc nL ret) {z : Fin 4} {x : Int32} (hd : decode cc pc = .ok (.iload_n z, 1)) (hq : pc + 1 = q) (i : Nat) (h : L[i]? = some ((z : Nat), .int x)) (K : KW E T V p l e R s m args below meth c nL k n Q q L (.int x :: st)) : KW E T V p l e R s m args below meth c nL k n Q pc L (st) := by
  subst hq
  intro H ls locs hR hS hl
  exact lv_iload_n C.x C.b hd rfl (lv_at hl i h) (K H ls locs hR hS hl)
theorem k_iload (pc q : Nat) (C : Cx E p s m args meth c own cc nL ret) {z : Nat} {x : Int32} (hd : decode cc pc = .ok (.iload z, 2)) (hq : pc + 2 = q) (i : Nat) (h : L[i]? = some (z, .int x)) (K : KW E T V p l e R s m args below meth c nL k n Q q L (.int x :: st)) : KW E T V p l e R s m args below meth c nL k n Q pc L (st) := by
  subst hq
  intro H ls locs hR hS hl
  exact lv_iload C.x C.b hd (lv_at hl i h) (K H ls locs hR hS hl)
theorem k_lload_n (pc q : Nat) (C : Cx E p s m args meth c own cc nL ret) {z : Fin 4} {x : Int64} (hd : decode cc pc = .ok (.lload_n z, 1)) (hq : pc + 1 = q) (i : Nat) (h : L[i]? = some ((z : Nat), .long x)) (K : KW E T V p l e R s m args below meth c nL k n Q q L (.long x :: st)) : KW E T V p l e R s m args below meth c nL k n Q pc L (st) := by
  subst hq
  intro H ls locs hR hS hl
  exact lv_lload_n C.x C.b hd rfl (lv_at hl i h) (K H ls locs hR hS hl)
theorem k_lload (pc q : Nat) (C : Cx E p s m args meth c own cc nL ret) {z : Nat} {x : Int64} (hd : decode cc pc = .ok (.lload z, 2)) (hq : pc + 2 = q) (i : Nat) (h : L[i]? = some (z, .long x)) (K : KW E T V p l e R s m args below meth c nL k n Q q L (.long x :: st)) : KW E T V p l e R s m args below meth c nL k n Q pc L (st) := by
  subst hq
  intro H ls locs hR hS hl
  exact lv_lload C.x C.b hd (lv_at hl i h) (K H ls locs hR hS hl)
theorem k_fload_n (pc q : Nat) (C : Cx E p s m args meth c own cc nL ret) {z : Fin 4} {x : UInt32} (hd : decode cc pc = .ok (.fload_n z, 1)) (hq : pc + 1 = q) (i : Nat) (h : L[i]? = some ((z : Nat), .float x)) (K : KW E T V p l e R s m args below meth c nL k n Q q L (.float x :: st)) : KW E T V p l e R s m args below meth c nL k n Q pc L (st) := by
  subst hq
  intro H ls locs hR hS hl
  exact lv_fload_n C.x C.b hd rfl (lv_at hl i h) (K H ls locs hR hS hl)
theorem k_aload_n (pc q : Nat) (C : Cx E p s m args meth c own cc nL ret) {z : Fin 4} {x : Nat} (hd : decode cc pc = .ok (.aload_n z, 1)) (hq : pc + 1 = q) (i : Nat) (h : L[i]? = some ((z : Nat), .ref x)) (K : KW E T V p l e R s m args below meth c nL k n Q q L (.ref x :: st)) : KW E T V p l e R s m args below meth c nL k n Q pc L (st) := by
  subst hq
  intro H ls locs hR hS hl
  exact lv_aload_n C.x C.b hd rfl (lv_at hl i h) (K H ls locs hR hS hl)
theorem k_aload (pc q : Nat) (C : Cx E p s m args meth c own cc nL ret) {z : Nat} {x : Nat} (hd : decode cc pc = .ok (.aload z, 2)) (hq : pc + 2 = q) (i : Nat) (h : L[i]? = some (z, .ref x)) (K : KW E T V p l e R s m args below meth c nL k n Q q L (.ref x :: st)) : KW E T V p l e R s m args below meth c nL k n Q pc L (st) := by
  subst hq
  intro H ls locs hR hS hl
  exact lv_aload C.x C.b hd (lv_at hl i h) (K H ls locs hR hS hl)
theorem k_aload_nq (pc q : Nat) (C : Cx E p s m args meth c own cc nL ret) {z : Fin 4} {r : Option Nat} (hd : decode cc pc = .ok (.aload_n z, 1)) (hq : pc + 1 = q) (i : Nat) (h : L[i]? = some ((z : Nat), va_rf r)) (K : KW E T V p l e R s m args below meth c nL k n Q q L (va_rf r :: st)) : KW E T V p l e R s m args below meth c nL k n Q pc L st := by
  subst hq
  intro H ls locs hR hS hl
  cases r with
  | none => exact lv_aload_nN C.x C.b hd rfl (lv_at hl i h) (K H ls locs hR hS hl)
  | some x => exact lv_aload_n C.x C.b hd rfl (lv_at hl i h) (K H ls locs hR hS hl)
theorem k_aloadq (pc q : Nat) (C : Cx E p s m args meth c own cc nL ret) {z : Nat} {r : Option Nat} (hd : decode cc pc = .ok (.aload z, 2)) (hq : pc + 2 = q) (i : Nat) (h : L[i]? = some (z, va_rf r)) (K : KW E T V p l e R s m args below meth c nL k n Q q L (va_rf r :: st)) : KW E T V p l e R s m args below meth c nL k n Q pc L st := by
  subst hq
  intro H ls locs hR hS hl
  cases r with
  | none => exact lv_aloadN C.x C.b hd (lv_at hl i h) (K H ls locs hR hS hl)
  | some x => exact lv_aload C.x C.b hd (lv_at hl i h) (K H ls locs hR hS hl)
theorem k_istore_n (pc q : Nat) (C : Cx E p s m args meth c own cc nL ret) {z : Fin 4} {x : Int32} (L' : List (Nat × Value)) (hd : decode cc pc = .ok (.istore_n z, 1)) (hq : pc + 1 = q) (hn : (z : Nat) < nL) (hL : ((z : Nat), Value.int x) :: L.filter (fun q => !(q.1 == (z : Nat)) && !(q.1 + 1 == (z : Nat) && q.2.category == 2)) = L') (K : KW E T V p l e R s m args below meth c nL k n Q q L' st) : KW E T V p l e R s m args below meth c nL k n Q pc L (.int x :: st) := by
  subst hq
  intro H ls locs hR hS hl
  exact lv_istore_n C.x C.b hd rfl hl hn hL (fun ls' hl' => K H ls' locs hR hS hl')
theorem k_istore (pc q : Nat) (C : Cx E p s m args meth c own cc nL ret) {z : Nat} {x : Int32} (L' : List (Nat × Value)) (hd : decode cc pc = .ok (.istore z, 2)) (hq : pc + 2 = q) (hn : z < nL) (hL : (z, Value.int x) :: L.filter (fun q => !(q.1 == z) && !(q.1 + 1 == z && q.2.category == 2)) = L') (K : KW E T V p l e R s m args below meth c nL k n Q q L' st) : KW E T V p l e R s m args below meth c nL k n Q pc L (.int x :: st) := by
  subst hq
  intro H ls locs hR hS hl
  exact lv_istore C.x C.b hd hl hn hL (fun ls' hl' => K H ls' locs hR hS hl')
theorem k_lstore_n (pc q : Nat) (C : Cx E p s m args meth c own cc nL ret) {z : Fin 4} {x : Int64} (L' : List (Nat × Value)) (hd : decode cc pc = .ok (.lstore_n z, 1)) (hq : pc + 1 = q) (hn : (z : Nat) + 1 < nL) (hL : ((z : Nat), Value.long x) :: L.filter (fun q => !(q.1 == (z : Nat)) && (!(q.1 == (z : Nat) + 1) && !(q.1 + 1 == (z : Nat) && q.2.category == 2))) = L') (K : KW E T V p l e R s m args below meth c nL k n Q q L' st) : KW E T V p l e R s m args below meth c nL k n Q pc L (.long x :: st) := by
  subst hq
  intro H ls locs hR hS hl
  exact lv_lstore_n C.x C.b hd rfl hl hn hL (fun ls' hl' => K H ls' locs hR hS hl')
theorem k_lstore (pc q : Nat) (C : Cx E p s m args meth c own cc nL ret) {z : Nat} {x : Int64} (L' : List (Nat × Value)) (hd : decode cc pc = .ok (.lstore z, 2)) (hq : pc + 2 = q) (hn : z + 1 < nL) (hL : (z, Value.long x) :: L.filter (fun q => !(q.1 == z) && (!(q.1 == z + 1) && !(q.1 + 1 == z && q.2.category == 2))) = L') (K : KW E T V p l e R s m args below meth c nL k n Q q L' st) : KW E T V p l e R s m args below meth c nL k n Q pc L (.long x :: st) := by
  subst hq
  intro H ls locs hR hS hl
  exact lv_lstore C.x C.b hd hl hn hL (fun ls' hl' => K H ls' locs hR hS hl')
theorem k_fstore_n (pc q : Nat) (C : Cx E p s m args meth c own cc nL ret) {z : Fin 4} {x : UInt32} (L' : List (Nat × Value)) (hd : decode cc pc = .ok (.fstore_n z, 1)) (hq : pc + 1 = q) (hn : (z : Nat) < nL) (hL : ((z : Nat), Value.float x) :: L.filter (fun q => !(q.1 == (z : Nat)) && !(q.1 + 1 == (z : Nat) && q.2.category == 2)) = L') (K : KW E T V p l e R s m args below meth c nL k n Q q L' st) : KW E T V p l e R s m args below meth c nL k n Q pc L (.float x :: st) := by
  subst hq
  intro H ls locs hR hS hl
  exact lv_fstore_n C.x C.b hd rfl hl hn hL (fun ls' hl' => K H ls' locs hR hS hl')
theorem k_astore_n (pc q : Nat) (C : Cx E p s m args meth c own cc nL ret) {z : Fin 4} {x : Nat} (L' : List (Nat × Value)) (hd : decode cc pc = .ok (.astore_n z, 1)) (hq : pc + 1 = q) (hn : (z : Nat) < nL) (hL : ((z : Nat), Value.ref x) :: L.filter (fun q => !(q.1 == (z : Nat)) && !(q.1 + 1 == (z : Nat) && q.2.category == 2)) = L') (K : KW E T V p l e R s m args below meth c nL k n Q q L' st) : KW E T V p l e R s m args below meth c nL k n Q pc L (.ref x :: st) := by
  subst hq
  intro H ls locs hR hS hl
  exact lv_astore_n C.x C.b hd rfl hl hn hL (fun ls' hl' => K H ls' locs hR hS hl')
theorem k_astore (pc q : Nat) (C : Cx E p s m args meth c own cc nL ret) {z : Nat} {x : Nat} (L' : List (Nat × Value)) (hd : decode cc pc = .ok (.astore z, 2)) (hq : pc + 2 = q) (hn : z < nL) (hL : (z, Value.ref x) :: L.filter (fun q => !(q.1 == z) && !(q.1 + 1 == z && q.2.category == 2)) = L') (K : KW E T V p l e R s m args below meth c nL k n Q q L' st) : KW E T V p l e R s m args below meth c nL k n Q pc L (.ref x :: st) := by
  subst hq
  intro H ls locs hR hS hl
  exact lv_astore C.x C.b hd hl hn hL (fun ls' hl' => K H ls' locs hR hS hl')
theorem k_astore_nq (pc q : Nat) (C : Cx E p s m args meth c own cc nL ret) {z : Fin 4} {r : Option Nat} (L' : List (Nat × Value)) (hd : decode cc pc = .ok (.astore_n z, 1)) (hq : pc + 1 = q) (hn : (z : Nat) < nL) (hL : ((z : Nat), va_rf r) :: L.filter (fun q => !(q.1 == (z : Nat)) && !(q.1 + 1 == (z : Nat) && q.2.category == 2)) = L') (K : KW E T V p l e R s m args below meth c nL k n Q q L' st) : KW E T V p l e R s m args below meth c nL k n Q pc L (va_rf r :: st) := by
  subst hq
  intro H ls locs hR hS hl
  cases r with
  | none => exact lv_astore_nN C.x C.b hd rfl hl hn hL (fun ls' hl' => K H ls' locs hR hS hl')
  | some x => exact lv_astore_n C.x C.b hd rfl hl hn hL (fun ls' hl' => K H ls' locs hR hS hl')
theorem k_astoreq (pc q : Nat) (C : Cx E p s m args meth c own cc nL ret) {z : Nat} {r : Option Nat} (L' : List (Nat × Value)) (hd : decode cc pc = .ok (.astore z, 2)) (hq : pc + 2 = q) (hn : z < nL) (hL : (z, va_rf r) :: L.filter (fun q => !(q.1 == z) && !(q.1 + 1 == z && q.2.category == 2)) = L') (K : KW E T V p l e R s m args below meth c nL k n Q q L' st) : KW E T V p l e R s m args below meth c nL k n Q pc L (va_rf r :: st) := by
  subst hq
  intro H ls locs hR hS hl
  cases r with
  | none => exact lv_astoreN C.x C.b hd hl hn hL (fun ls' hl' => K H ls' locs hR hS hl')
  | some x => exact lv_astore C.x C.b hd hl hn hL (fun ls' hl' => K H ls' locs hR hS hl')
theorem k_iinc (pc q : Nat) (C : Cx E p s m args meth c own cc nL ret) {z : Nat} {d : Int} {x : Int32} (L' : List (Nat × Value)) (v : Int32) (hd : decode cc pc = .ok (.iinc z d, 3)) (hq : pc + 3 = q) (i : Nat) (h : L[i]? = some (z, .int x)) (hv : x + Int32.ofInt d = v) (hn : z < nL) (hL : (z, Value.int v) :: L.filter (fun q => !(q.1 == z) && !(q.1 + 1 == z && q.2.category == 2)) = L') (K : KW E T V p l e R s m args below meth c nL k n Q q L' st) : KW E T V p l e R s m args below meth c nL k n Q pc L st := by
  subst hq
  intro H ls locs hR hS hl
  exact lv_iinc C.x C.b hd hl (k := i) h hv hn hL (fun ls' hl' => K H ls' locs hR hS hl')
theorem k_if_eq (pc t q : Nat) (C : Cx E p s m args meth c own cc nL ret) {x : Int32} {off : Int} (hd : decode cc pc = .ok (.ifCond .eq off, 3)) (ht : (pc : Int) + off = (t : Int)) (hq : pc + 3 = q) (kt : x = 0 → KW E T V p l e R s m args below meth c nL k n Q t L st) (kf : ¬ x = 0 → KW E T V p l e R s m args below meth c nL k n Q q L st) : KW E T V p l e R s m args below meth c nL k n Q pc L (.int x :: st) := by
  subst hq
  intro H ls locs hR hS hl
  exact lv_if_eq C.x C.b hd ht (fun h => kt h H ls locs hR hS hl) (fun h => kf (by first | exact h | exact Classical.not_not.mp h) H ls locs hR hS hl)
theorem k_icmp_eq (pc t q : Nat) (C : Cx E p s m args meth c own cc nL ret) {x y : Int32} {off : Int} (hd : decode cc pc = .ok (.if_icmp .eq off, 3)) (ht : (pc : Int) + off = (t : Int)) (hq : pc + 3 = q) (kt : x = y → KW E T V p l e R s m args below meth c nL k n Q t L st) (kf : ¬ x = y → KW E T V p l e R s m args below meth c nL k n Q q L st) : KW E T V p l e R s m args below meth c nL k n Q pc L (.int y :: .int x :: st) := by
  subst hq
  intro H ls locs hR hS hl
  exact lv_icmp_eq C.x C.b hd ht (fun h => kt h H ls locs hR hS hl) (fun h => kf (by first | exact h | exact Classical.not_not.mp h) H ls locs hR hS hl)
theorem k_if_ne (pc t q : Nat) (C : Cx E p s m args meth c own cc nL ret) {x : Int32} {off : Int} (hd : decode cc pc = .ok (.ifCond .ne off, 3)) (ht : (pc : Int) + off = (t : Int)) (hq : pc + 3 = q) (kt : ¬ x = 0 → KW E T V p l e R s m args below meth c nL k n Q t L st) (kf : x = 0 → KW E T V p l e R s m args below meth c nL k n Q q L st) : KW E T V p l e R s m args below meth c nL k n Q pc L (.int x :: st) := by
  subst hq
  intro H ls locs hR hS hl
  exact lv_if_ne C.x C.b hd ht (fun h => kt h H ls locs hR hS hl) (fun h => kf (by first | exact h | exact Classical.not_not.mp h) H ls locs hR hS hl)
theorem k_icmp_ne (pc t q : Nat) (C : Cx E p s m args meth c own cc nL ret) {x y : Int32} {off : Int} (hd : decode cc pc = .ok (.if_icmp .ne off, 3)) (ht : (pc : Int) + off = (t : Int)) (hq : pc + 3 = q) (kt : ¬ x = y → KW E T V p l e R s m args below meth c nL k n Q t L st) (kf : x = y → KW E T V p l e R s m args below meth c nL k n Q q L st) : KW E T V p l e R s m args below meth c nL k n Q pc L (.int y :: .int x :: st) := by
  subst hq
  intro H ls locs hR hS hl
  exact lv_icmp_ne C.x C.b hd ht (fun h => kt h H ls locs hR hS hl) (fun h => kf (by first | exact h | exact Classical.not_not.mp h) H ls locs hR hS hl)
theorem k_if_lt (pc t q : Nat) (C : Cx E p s m args meth c own cc nL ret) {x : Int32} {off : Int} (hd : decode cc pc = .ok (.ifCond .lt off, 3)) (ht : (pc : Int) + off = (t : Int)) (hq : pc + 3 = q) (kt : x < 0 → KW E T V p l e R s m args below meth c nL k n Q t L st) (kf : ¬ x < 0 → KW E T V p l e R s m args below meth c nL k n Q q L st) : KW E T V p l e R s m args below meth c nL k n Q pc L (.int x :: st) := by
  subst hq
  intro H ls locs hR hS hl
  exact lv_if_lt C.x C.b hd ht (fun h => kt h H ls locs hR hS hl) (fun h => kf (by first | exact h | exact Classical.not_not.mp h) H ls locs hR hS hl)
theorem k_icmp_lt (pc t q : Nat) (C : Cx E p s m args meth c own cc nL ret) {x y : Int32} {off : Int} (hd : decode cc pc = .ok (.if_icmp .lt off, 3)) (ht : (pc : Int) + off = (t : Int)) (hq : pc + 3 = q) (kt : x < y → KW E T V p l e R s m args below meth c nL k n Q t L st) (kf : ¬ x < y → KW E T V p l e R s m args below meth c nL k n Q q L st) : KW E T V p l e R s m args below meth c nL k n Q pc L (.int y :: .int x :: st) := by
  subst hq
  intro H ls locs hR hS hl
  exact lv_icmp_lt C.x C.b hd ht (fun h => kt h H ls locs hR hS hl) (fun h => kf (by first | exact h | exact Classical.not_not.mp h) H ls locs hR hS hl)
theorem k_if_ge (pc t q : Nat) (C : Cx E p s m args meth c own cc nL ret) {x : Int32} {off : Int} (hd : decode cc pc = .ok (.ifCond .ge off, 3)) (ht : (pc : Int) + off = (t : Int)) (hq : pc + 3 = q) (kt : 0 ≤ x → KW E T V p l e R s m args below meth c nL k n Q t L st) (kf : ¬ 0 ≤ x → KW E T V p l e R s m args below meth c nL k n Q q L st) : KW E T V p l e R s m args below meth c nL k n Q pc L (.int x :: st) := by
  subst hq
  intro H ls locs hR hS hl
  exact lv_if_ge C.x C.b hd ht (fun h => kt h H ls locs hR hS hl) (fun h => kf (by first | exact h | exact Classical.not_not.mp h) H ls locs hR hS hl)
theorem k_icmp_ge (pc t q : Nat) (C : Cx E p s m args meth c own cc nL ret) {x y : Int32} {off : Int} (hd : decode cc pc = .ok (.if_icmp .ge off, 3)) (ht : (pc : Int) + off = (t : Int)) (hq : pc + 3 = q) (kt : y ≤ x → KW E T V p l e R s m args below meth c nL k n Q t L st) (kf : ¬ y ≤ x → KW E T V p l e R s m args below meth c nL k n Q q L st) : KW E T V p l e R s m args below meth c nL k n Q pc L (.int y :: .int x :: st) := by
  subst hq
  intro H ls locs hR hS hl
  exact lv_icmp_ge C.x C.b hd ht (fun h => kt h H ls locs hR hS hl) (fun h => kf (by first | exact h | exact Classical.not_not.mp h) H ls locs hR hS hl)
theorem k_if_gt (pc t q : Nat) (C : Cx E p s m args meth c own cc nL ret) {x : Int32} {off : Int} (hd : decode cc pc = .ok (.ifCond .gt off, 3)) (ht : (pc : Int) + off = (t : Int)) (hq : pc + 3 = q) (kt : 0 < x → KW E T V p l e R s m args below meth c nL k n Q t L st) (kf : ¬ 0 < x → KW E T V p l e R s m args below meth c nL k n Q q L st) : KW E T V p l e R s m args below meth c nL k n Q pc L (.int x :: st) := by
  subst hq
  intro H ls locs hR hS hl
  exact lv_if_gt C.x C.b hd ht (fun h => kt h H ls locs hR hS hl) (fun h => kf (by first | exact h | exact Classical.not_not.mp h) H ls locs hR hS hl)
theorem k_icmp_gt (pc t q : Nat) (C : Cx E p s m args meth c own cc nL ret) {x y : Int32} {off : Int} (hd : decode cc pc = .ok (.if_icmp .gt off, 3)) (ht : (pc : Int) + off = (t : Int)) (hq : pc + 3 = q) (kt : y < x → KW E T V p l e R s m args below meth c nL k n Q t L st) (kf : ¬ y < x → KW E T V p l e R s m args below meth c nL k n Q q L st) : KW E T V p l e R s m args below meth c nL k n Q pc L (.int y :: .int x :: st) := by
  subst hq
  intro H ls locs hR hS hl
  exact lv_icmp_gt C.x C.b hd ht (fun h => kt h H ls locs hR hS hl) (fun h => kf (by first | exact h | exact Classical.not_not.mp h) H ls locs hR hS hl)
theorem k_if_le (pc t q : Nat) (C : Cx E p s m args meth c own cc nL ret) {x : Int32} {off : Int} (hd : decode cc pc = .ok (.ifCond .le off, 3)) (ht : (pc : Int) + off = (t : Int)) (hq : pc + 3 = q) (kt : x ≤ 0 → KW E T V p l e R s m args below meth c nL k n Q t L st) (kf : ¬ x ≤ 0 → KW E T V p l e R s m args below meth c nL k n Q q L st) : KW E T V p l e R s m args below meth c nL k n Q pc L (.int x :: st) := by
  subst hq
  intro H ls locs hR hS hl
  exact lv_if_le C.x C.b hd ht (fun h => kt h H ls locs hR hS hl) (fun h => kf (by first | exact h | exact Classical.not_not.mp h) H ls locs hR hS hl)
theorem k_icmp_le (pc t q : Nat) (C : Cx E p s m args meth c own cc nL ret) {x y : Int32} {off : Int} (hd : decode cc pc = .ok (.if_icmp .le off, 3)) (ht : (pc : Int) + off = (t : Int)) (hq : pc + 3 = q) (kt : x ≤ y → KW E T V p l e R s m args below meth c nL k n Q t L st) (kf : ¬ x ≤ y → KW E T V p l e R s m args below meth c nL k n Q q L st) : KW E T V p l e R s m args below meth c nL k n Q pc L (.int y :: .int x :: st) := by
  subst hq
  intro H ls locs hR hS hl
  exact lv_icmp_le C.x C.b hd ht (fun h => kt h H ls locs hR hS hl) (fun h => kf (by first | exact h | exact Classical.not_not.mp h) H ls locs hR hS hl)
theorem k_goto (pc t : Nat) (C : Cx E p s m args meth c own cc nL ret) {off : Int} (hd : decode cc pc = .ok (.goto off, 3)) (ht : (pc : Int) + off = (t : Int)) (K : KW E T V p l e R s m args below meth c nL k n Q t L st) : KW E T V p l e R s m args below meth c nL k n Q pc L st := fun H ls locs hR hS hl => lv_goto C.x C.b hd ht (K H ls locs hR hS hl)
theorem k_ifnull (pc t q : Nat) (C : Cx E p s m args meth c own cc nL ret) {r : Option Nat} {off : Int} (hd : decode cc pc = .ok (.ifnull off, 3)) (ht : (pc : Int) + off = (t : Int)) (hq : pc + 3 = q) (kt : r = none → KW E T V p l e R s m args below meth c nL k n Q t L st) (kf : ∀ a : Nat, r = some a → KW E T V p l e R s m args below meth c nL k n Q q L st) : KW E T V p l e R s m args below meth c nL k n Q pc L (va_rf r :: st) := by
  subst hq
  intro H ls locs hR hS hl
  cases r with
  | none => exact lv_ifnullN C.x C.b hd ht (kt rfl H ls locs hR hS hl)
  | some a => exact lv_ifnull C.x C.b hd (kf a rfl H ls locs hR hS hl)
theorem k_ifnonnull (pc t q : Nat) (C : Cx E p s m args meth c own cc nL ret) {r : Option Nat} {off : Int} (hd : decode cc pc = .ok (.ifnonnull off, 3)) (ht : (pc : Int) + off = (t : Int)) (hq : pc + 3 = q) (kt : ∀ a : Nat, r = some a → KW E T V p l e R s m args below meth c nL k n Q t L st) (kf : r = none → KW E T V p l e R s m args below meth c nL k n Q q L st) : KW E T V p l e R s m args below meth c nL k n Q pc L (va_rf r :: st) := by
  subst hq
  intro H ls locs hR hS hl
  cases r with
  | none => exact lv_ifnonnullN C.x C.b hd (kf rfl H ls locs hR hS hl)
  | some a => exact lv_ifnonnull C.x C.b hd ht (kt a rfl H ls locs hR hS hl)
theorem k_tabIn (pc t : Nat) (C : Cx E p s m args meth c own cc nL ret) {dflt lo hi : Int} {offs : Array Int} {len : Nat} {x : Int32} {off : Int} (hd : decode cc pc = .ok (.tableswitch dflt lo hi offs, len)) (h1 : ¬ x.toInt < lo) (h2 : ¬ hi < x.toInt) (ho : offs[(x.toInt - lo).toNat]? = some off) (ht : (pc : Int) + off = (t : Int)) (K : KW E T V p l e R s m args below meth c nL k n Q t L st) : KW E T V p l e R s m args below meth c nL k n Q pc L (.int x :: st) := fun H ls locs hR hS hl => lv_tableIn C.x C.b hd h1 h2 ho ht (K H ls locs hR hS hl)
theorem k_tabOut (pc t : Nat) (C : Cx E p s m args meth c own cc nL ret) {dflt lo hi : Int} {offs : Array Int} {len : Nat} {x : Int32} (hd : decode cc pc = .ok (.tableswitch dflt lo hi offs, len)) (h : x.toInt < lo ∨ hi < x.toInt) (ht : (pc : Int) + dflt = (t : Int)) (K : KW E T V p l e R s m args below meth c nL k n Q t L st) : KW E T V p l e R s m args below meth c nL k n Q pc L (.int x :: st) := fun H ls locs hR hS hl => lv_tableOut C.x C.b hd h ht (K H ls locs hR hS hl)
theorem k_perm {pc : Nat} (ks : List Nat) {L' : List (Nat × Value)} (hL : lv_pick L ks = L') (K : KW E T V p l e R s m args below meth c nL k n Q pc L' st) : KW E T V p l e R s m args below meth c nL k n Q pc L st := fun H ls locs hR hS hl => K H ls locs hR hS (lv_sub hl ks hL)
theorem k_get (pc q : Nat) (C : Cx E p s m args meth c own cc nL ret) {ci N ix a : Nat} {Cn : String} {Tt : u_T} {ty : Nat → FieldType} {v : Value} (hd : decode cc pc = .ok (.getfield ix, 3)) (hq : pc + 3 = q) (I : CI ci Cn Tt N ty) (j : Nat) (hw : Cond.fieldLink own ix (Tt j).1 (Tt j).2.1 (Tt j).2.2.1 ∈ GW) (ho : tO T a ci) (hj : j < N) (hv : (flds T V a ci)[j]? = some v) (K : KW E T V p l e R s m args below meth c nL k n Q q L (v :: st)) : KW E T V p l e R s m args below meth c nL k n Q pc L (.ref a :: st) := by
  subst hq
  intro H ls locs hR hS hl
  obtain ⟨h1, h2⟩ := hR.2 a _ ho
  have hP : va_P E.1 classes [(a, .inr (ci, flds T V a ci))] H := by
    intro i q hi
    cases i with
    | zero => cases hi; exact h2
    | succ i => cases hi
  exact va_get C.x C.b C.ts I.2.1 C.ow C.K hP 0 rfl I.1 j hj (C.ts _ hw) (fun _ h => h) hv hd (K H ls locs hR hS hl)
theorem k_getF (pc q : Nat) (C : Cx E p s m args meth c own cc nL ret) {ci N ix a b : Nat} {Cn : String} {Tt : u_T} {ty : Nat → FieldType} (hd : decode cc pc = .ok (.getfield ix, 3)) (hq : pc + 3 = q) (I : CI ci Cn Tt N ty) (j : Nat) (hw : Cond.fieldLink own ix (Tt j).1 (Tt j).2.1 (Tt j).2.2.1 ∈ GW) (ho : tO T a ci) (hj : j < N) (hf : tF T a j b) (hv : (flds T V a ci)[j]? = some (va_rf (T.2.2 a j))) (K : KW E T V p l e R s m args below meth c nL k n Q q L (.ref b :: st)) : KW E T V p l e R s m args below meth c nL k n Q pc L (.ref a :: st) := by
  refine k_get pc q C hd hq I j hw ho hj (v := .ref b) ?_ K
  rw [hv, show T.2.2 a j = some b from hf]
  rfl
theorem k_put (pc q : Nat) (C : Cx E p s m args meth c own cc nL ret) {ci N ix a : Nat} {Cn : String} {Tt : u_T} {ty0 : Nat → FieldType} {v : Value} {V' : gV} (hd : decode cc pc = .ok (.putfield ix, 3)) (hq : pc + 3 = q) (I : CI ci Cn Tt N ty0) (j : Nat) (hw : Cond.fieldLink own ix (Tt j).1 (Tt j).2.1 (Tt j).2.2.1 ∈ GW) (ho : tO T a ci) (hj : j < N) (hfin : (Tt j).2.2.2 = false) (hn : narrow (ty0 j) v = v) (hfit : fits (ty0 j) v = true)
    (hoff : ∀ b : Nat, b ≠ a → V'.1 b = V.1 b ∧ V'.2.1 b = V.2.1 b ∧ V'.2.2 b = V.2.2 b) (hset : flds T V' a ci = (flds T V a ci).set j v) (K : KW E T V' p l e R s m args below meth c nL k n Q q L st) : KW E T V p l e R s m args below meth c nL k n Q pc L (v :: .ref a :: st) := by
  subst hq
  intro H ls locs hR hS hl
  obtain ⟨h1, h2⟩ := hR.2 a _ ho
  have hap := va_apart (own := own) C.ts I.2.1 ty0 I.2.2.1 I.2.2.2.1 C.K I.1
  obtain ⟨r, g1, cell, q1, q2, q3, q4⟩ := h2
  have hr : r = (Cn, Tt, N) := Option.some.inj (g1.symm.trans I.1)
  subst hr
  obtain ⟨hSl, hfc, kC, hkC, hkind⟩ := C.K.1 ci _ I.1
  obtain ⟨cf, kf, fi, f, hi, hsl⟩ := hSl j hj
  have hlay := C.ts _ (I.2.1 _ (u_in_lay hj))
  unfold u_lay at hlay
  rw [if_neg (by rw [hfin]; decide)] at hlay
  have hst := (u_facts hfc hkC (u_lays C.ts I.2.1 hj) hi).1
  have h6 := u_store hfc hkC hkind hlay hi (I.2.2.1 j hj) hn hfit
  refine W.putK C.x C.b (f := f) ⟨C.ow, C.ts _ hw, ⟨_, _, _, hi⟩, hst⟩ (by rw [q2]; exact h6) q1 q3 (by rw [hsl]; exact k2_hasslot (q4 j hj)) rfl rfl hd fun H' e1 e2 e3 => ?_
  rw [hsl] at e1 ⊢
  refine K H' ls _ (hR.put e2 e3 hoff fun k2 hk2 => ?_) (hS.put e2 e3 h1) hl
  have hk3 : k2 = .inr ci := Option.some.inj (hk2.symm.trans ho)
  subst hk3
  show ∃ r : vw_C, classes[ci]? = some r ∧ t_OB a (E.1.1 ci) r.2.2 (E.1.2 ci) H' (vp_V (flds T V' a ci))
  rw [hset]
  exact ⟨_, I.1, t_OB.to (V := updV (vp_V (flds T V a ci)) j v) ⟨_, e1, q2, q3, t_set q4 hap hj v⟩ (fun i _ => vp_updV_set (by rw [I.2.2.2.2]; exact hj) v i)⟩
theorem k_getN (pc q : Nat) (C : Cx E p s m args meth c own cc nL ret) {ci N ix a : Nat} {Cn : String} {Tt : u_T} {ty : Nat → FieldType} {v : Value} (hd : decode cc pc = .ok (.getfield ix, 3)) (hq : pc + 3 = q) (I : CI ci Cn Tt N ty) (j : Nat) (hw : Cond.fieldLinkNest own ix (Tt j).1 (Tt j).2.1 (Tt j).2.2.1 "PantographArm" ∈ nws) (ho : tO T a ci) (hj : j < N) (hv : (flds T V a ci)[j]? = some v) (K : KW E T V p l e R s m args below meth c nL k n Q q L (v :: st)) : KW E T V p l e R s m args below meth c nL k n Q pc L (.ref a :: st) := by
  subst hq
  intro H ls locs hR hS hl
  obtain ⟨h1, h2⟩ := hR.2 a _ ho
  have hP : va_P E.1 classes [(a, .inr (ci, flds T V a ci))] H := by
    intro i q hi
    cases i with
    | zero => cases hi; exact h2
    | succ i => cases hi
  exact va_getN C.x C.b C.ts I.2.1 C.ow C.K hP 0 rfl I.1 j hj (va_Nw.use rfl (C.nw _ hw)) (fun _ h => h) hv hd (K H ls locs hR hS hl)
theorem k_putN (pc q : Nat) (C : Cx E p s m args meth c own cc nL ret) {ci N ix a : Nat} {Cn : String} {Tt : u_T} {ty0 : Nat → FieldType} {v : Value} {V' : gV} (hd : decode cc pc = .ok (.putfield ix, 3)) (hq : pc + 3 = q) (I : CI ci Cn Tt N ty0) (j : Nat) (hw : Cond.fieldLinkNest own ix (Tt j).1 (Tt j).2.1 (Tt j).2.2.1 "PantographArm" ∈ nws) (ho : tO T a ci) (hj : j < N) (hfin : (Tt j).2.2.2 = false) (hn : narrow (ty0 j) v = v) (hfit : fits (ty0 j) v = true)
    (hoff : ∀ b : Nat, b ≠ a → V'.1 b = V.1 b ∧ V'.2.1 b = V.2.1 b ∧ V'.2.2 b = V.2.2 b) (hset : flds T V' a ci = (flds T V a ci).set j v) (K : KW E T V' p l e R s m args below meth c nL k n Q q L st) : KW E T V p l e R s m args below meth c nL k n Q pc L (v :: .ref a :: st) := by
  subst hq
  intro H ls locs hR hS hl
  obtain ⟨h1, h2⟩ := hR.2 a _ ho
  have hap := va_apart (own := own) C.ts I.2.1 ty0 I.2.2.1 I.2.2.2.1 C.K I.1
  obtain ⟨r, g1, cell, q1, q2, q3, q4⟩ := h2
  have hr : r = (Cn, Tt, N) := Option.some.inj (g1.symm.trans I.1)
  subst hr
  obtain ⟨hSl, hfc, kC, hkC, hkind⟩ := C.K.1 ci _ I.1
  obtain ⟨cf, kf, fi, f, hi, hsl⟩ := hSl j hj
  have hlay := C.ts _ (I.2.1 _ (u_in_lay hj))
  unfold u_lay at hlay
  rw [if_neg (by rw [hfin]; decide)] at hlay
  have hst := (u_facts hfc hkC (u_lays C.ts I.2.1 hj) hi).1
  have h6 := u_store hfc hkC hkind hlay hi (I.2.2.1 j hj) hn hfit
  refine va_WputK C.x C.b (f := f) C.ow (va_Nw.use rfl (C.nw _ hw)) hi hst (by rw [q2]; exact h6) q1 q3 (by rw [hsl]; exact k2_hasslot (q4 j hj)) rfl rfl hd fun H' e1 e2 e3 => ?_
  rw [hsl] at e1 ⊢
  refine K H' ls _ (hR.put e2 e3 hoff fun k2 hk2 => ?_) (hS.put e2 e3 h1) hl
  have hk3 : k2 = .inr ci := Option.some.inj (hk2.symm.trans ho)
  subst hk3
  show ∃ r : vw_C, classes[ci]? = some r ∧ t_OB a (E.1.1 ci) r.2.2 (E.1.2 ci) H' (vp_V (flds T V' a ci))
  rw [hset]
  exact ⟨_, I.1, t_OB.to (V := updV (vp_V (flds T V a ci)) j v) ⟨_, e1, q2, q3, t_set q4 hap hj v⟩ (fun i _ => vp_updV_set (by rw [I.2.2.2.2]; exact hj) v i)⟩
theorem tyl_at {E : gE} (t : Nat) (ht : t < 6) : (tyl E)[t]? = some (E.2.1 t, aty t) := by
  rcases (show t = 0 ∨ t = 1 ∨ t = 2 ∨ t = 3 ∨ t = 4 ∨ t = 5 by omega) with rfl | rfl | rfl | rfl | rfl | rfl <;> rfl
theorem Rep.one {E : gE} {T : gT} {V : gV} {H : Heap} {a : Nat} {x : kd} (hR : Rep E T V H) (ho : T.2.1 a = some x) : va_P E.1 classes [(a, ent E T V a x)] H := by
  intro i q hi
  cases i with
  | zero => cases hi; exact (hR.2 a _ ho).2
  | succ i => cases hi
theorem k_alen (pc q : Nat) (C : Cx E p s m args meth c own cc nL ret) {a t N : Nat} {v : Int32} (hd : decode cc pc = .ok (.arraylength, 1)) (hq : pc + 1 = q) (ht : tA T a t N) (h6 : t < 6) (hv : Int32.ofNat N = v) (K : KW E T V p l e R s m args below meth c nL k n Q q L (.int v :: st)) : KW E T V p l e R s m args below meth c nL k n Q pc L (.ref a :: st) := by
  subst hq
  intro H ls locs hR hS hl
  exact va_alen C.x C.b C.K (hR.one ht) 0 t rfl (tyl_at t h6) hv hd (K H ls locs hR hS hl)
theorem k_iald (pc q : Nat) (C : Cx E p s m args meth c own cc nL ret) {a N : Nat} {i : Int32} (hd : decode cc pc = .ok (.iaload, 1)) (hq : pc + 1 = q) (ht : tA T a 0 N) (hin : vp_in i N) (K : KW E T V p l e R s m args below meth c nL k n Q q L (.int (V.1 a i.toNatClampNeg) :: st)) : KW E T V p l e R s m args below meth c nL k n Q pc L (.int i :: .ref a :: st) := by
  subst hq
  intro H ls locs hR hS hl
  exact va_iald C.x C.b C.K (hR.one ht) 0 0 rfl rfl hin hd (K H ls locs hR hS hl)
theorem k_cald (pc q : Nat) (C : Cx E p s m args meth c own cc nL ret) {a N : Nat} {i : Int32} (hd : decode cc pc = .ok (.caload, 1)) (hq : pc + 1 = q) (ht : tA T a 4 N) (hin : vp_in i N) (K : KW E T V p l e R s m args below meth c nL k n Q q L (.int (V.1 a i.toNatClampNeg) :: st)) : KW E T V p l e R s m args below meth c nL k n Q pc L (.int i :: .ref a :: st) := by
  subst hq
  intro H ls locs hR hS hl
  exact va_cald C.x C.b C.K (hR.one ht) 0 4 rfl rfl hin hd (K H ls locs hR hS hl)
theorem k_zald (pc q : Nat) (C : Cx E p s m args meth c own cc nL ret) {a N : Nat} {i : Int32} (hd : decode cc pc = .ok (.baload, 1)) (hq : pc + 1 = q) (ht : tA T a 5 N) (hin : vp_in i N) (K : KW E T V p l e R s m args below meth c nL k n Q q L (.int (V.1 a i.toNatClampNeg) :: st)) : KW E T V p l e R s m args below meth c nL k n Q pc L (.int i :: .ref a :: st) := by
  subst hq
  intro H ls locs hR hS hl
  exact va_zald C.x C.b C.K (hR.one ht) 0 5 rfl rfl hin hd (K H ls locs hR hS hl)
theorem k_lald (pc q : Nat) (C : Cx E p s m args meth c own cc nL ret) {a N : Nat} {i : Int32} (hd : decode cc pc = .ok (.laload, 1)) (hq : pc + 1 = q) (ht : tA T a 1 N) (hin : vp_in i N) (K : KW E T V p l e R s m args below meth c nL k n Q q L (.long (V.2.1 a i.toNatClampNeg) :: st)) : KW E T V p l e R s m args below meth c nL k n Q pc L (.int i :: .ref a :: st) := by
  subst hq
  intro H ls locs hR hS hl
  exact va_lald C.x C.b C.K (hR.one ht) 0 1 rfl rfl hin hd (K H ls locs hR hS hl)
theorem k_aald2 (pc q : Nat) (C : Cx E p s m args meth c own cc nL ret) {a N : Nat} {i : Int32} (hd : decode cc pc = .ok (.aaload, 1)) (hq : pc + 1 = q) (ht : tA T a 2 N) (hin : vp_in i N) (K : KW E T V p l e R s m args below meth c nL k n Q q L (va_rf (V.2.2 a i.toNatClampNeg) :: st)) : KW E T V p l e R s m args below meth c nL k n Q pc L (.int i :: .ref a :: st) := by
  subst hq
  intro H ls locs hR hS hl
  exact va_aldq C.x C.b C.K (hR.one ht) 0 2 rfl rfl hin hd (K H ls locs hR hS hl)
theorem k_aald3 (pc q : Nat) (C : Cx E p s m args meth c own cc nL ret) {a N : Nat} {i : Int32} (hd : decode cc pc = .ok (.aaload, 1)) (hq : pc + 1 = q) (ht : tA T a 3 N) (hin : vp_in i N) (K : KW E T V p l e R s m args below meth c nL k n Q q L (va_rf (V.2.2 a i.toNatClampNeg) :: st)) : KW E T V p l e R s m args below meth c nL k n Q pc L (.int i :: .ref a :: st) := by
  subst hq
  intro H ls locs hR hS hl
  exact va_aldq C.x C.b C.K (hR.one ht) 0 3 rfl rfl hin hd (K H ls locs hR hS hl)
theorem k_iast (pc q : Nat) (C : Cx E p s m args meth c own cc nL ret) {a N : Nat} {i : Int32} {x : Int32}  (hd : decode cc pc = .ok (.iastore, 1)) (hq : pc + 1 = q) (ht : tA T a 0 N) (hin : vp_in i N) (K : KW E T (wI V a i.toNatClampNeg x) p l e R s m args below meth c nL k n Q q L st) : KW E T V p l e R s m args below meth c nL k n Q pc L (.int x :: .int i :: .ref a :: st) := by
  subst hq
  intro H ls locs hR hS hl
  have hlt : i.toNatClampNeg < N := Nat.not_le.mp fun z => hin (Or.inr z)
  have hP := hR.one ht
  refine W.iast C.x C.b (hP 0 _ rfl) ((C.K.2 0 _ rfl).1 N (fun j => .int (V.1 a j))) (fun z => by cases z) (by show ¬ (i < 0 ∨ (arrV _ _ _).slots.size ≤ _); rw [arrV_size]; exact hin) rfl rfl hd fun H1 e z oq => ?_
  refine K H1 ls _ (hR.put z oq wI_off fun k2 hk2 => ?_) (hS.put z oq (hR.2 a _ ht).1) hl
  have hk3 : k2 = .inl (0, N) := Option.some.inj (hk2.symm.trans ht)
  subst hk3
  show H1[a]? = some (vp_cell _ _)
  rw [e]
  simp only [ent, arrv, vp_cell_i]
  rw [arrV_store]
  congr 2
  funext j
  by_cases hj : j = i.toNatClampNeg
  · subst hj
    simp [updV, wI, upd]
  · simp [updV, wI, upd, hj]
theorem k_last (pc q : Nat) (C : Cx E p s m args meth c own cc nL ret) {a N : Nat} {i : Int32} {x : Int64}  (hd : decode cc pc = .ok (.lastore, 1)) (hq : pc + 1 = q) (ht : tA T a 1 N) (hin : vp_in i N) (K : KW E T (wL V a i.toNatClampNeg x) p l e R s m args below meth c nL k n Q q L st) : KW E T V p l e R s m args below meth c nL k n Q pc L (.long x :: .int i :: .ref a :: st) := by
  subst hq
  intro H ls locs hR hS hl
  have hlt : i.toNatClampNeg < N := Nat.not_le.mp fun z => hin (Or.inr z)
  have hP := hR.one ht
  refine W.last C.x C.b (hP 0 _ rfl) ((C.K.2 1 _ rfl).1 N (fun j => .long (V.2.1 a j))) (fun z => by cases z) (by show ¬ (i < 0 ∨ (arrV _ _ _).slots.size ≤ _); rw [arrV_size]; exact hin) rfl rfl hd fun H1 e z oq => ?_
  refine K H1 ls _ (hR.put z oq wL_off fun k2 hk2 => ?_) (hS.put z oq (hR.2 a _ ht).1) hl
  have hk3 : k2 = .inl (1, N) := Option.some.inj (hk2.symm.trans ht)
  subst hk3
  show H1[a]? = some (vp_cell _ _)
  rw [e]
  simp only [ent, arrv, vp_cell_l]
  rw [arrV_store]
  congr 2
  funext j
  by_cases hj : j = i.toNatClampNeg
  · subst hj
    simp [updV, wL, vp_updL]
  · simp [updV, wL, vp_updL, hj]
theorem k_cast (pc q : Nat) (C : Cx E p s m args meth c own cc nL ret) {a N : Nat} {i : Int32} {x : Int32}  (hd : decode cc pc = .ok (.castore, 1)) (hq : pc + 1 = q) (ht : tA T a 4 N) (hin : vp_in i N) (K : KW E T (wI V a i.toNatClampNeg (vp_nar .char x)) p l e R s m args below meth c nL k n Q q L st) : KW E T V p l e R s m args below meth c nL k n Q pc L (.int x :: .int i :: .ref a :: st) := by
  subst hq
  intro H ls locs hR hS hl
  have hlt : i.toNatClampNeg < N := Nat.not_le.mp fun z => hin (Or.inr z)
  have hP := hR.one ht
  refine W.cast C.x C.b (hP 0 _ rfl) ((C.K.2 4 _ rfl).1 N (fun j => .int (V.1 a j))) (fun z => by cases z) (by show ¬ (i < 0 ∨ (arrV _ _ _).slots.size ≤ _); rw [arrV_size]; exact hin) rfl rfl hd fun H1 e z oq => ?_
  refine K H1 ls _ (hR.put z oq wI_off fun k2 hk2 => ?_) (hS.put z oq (hR.2 a _ ht).1) hl
  have hk3 : k2 = .inl (4, N) := Option.some.inj (hk2.symm.trans ht)
  subst hk3
  show H1[a]? = some (vp_cell _ _)
  rw [e]
  simp only [ent, arrv, vp_cell_i]
  rw [arrV_store]
  congr 2
  funext j
  by_cases hj : j = i.toNatClampNeg
  · subst hj
    simp [updV, wI, upd]
    rfl
  · simp [updV, wI, upd, hj]
theorem k_zast (pc q : Nat) (C : Cx E p s m args meth c own cc nL ret) {a N : Nat} {i : Int32} {x : Int32}  (hd : decode cc pc = .ok (.bastore, 1)) (hq : pc + 1 = q) (ht : tA T a 5 N) (hin : vp_in i N) (K : KW E T (wI V a i.toNatClampNeg (vp_nar .boolean x)) p l e R s m args below meth c nL k n Q q L st) : KW E T V p l e R s m args below meth c nL k n Q pc L (.int x :: .int i :: .ref a :: st) := by
  subst hq
  intro H ls locs hR hS hl
  have hlt : i.toNatClampNeg < N := Nat.not_le.mp fun z => hin (Or.inr z)
  have hP := hR.one ht
  refine W.zast C.x C.b (hP 0 _ rfl) ((C.K.2 5 _ rfl).1 N (fun j => .int (V.1 a j))) (fun z => by cases z) (by show ¬ (i < 0 ∨ (arrV _ _ _).slots.size ≤ _); rw [arrV_size]; exact hin) rfl rfl hd fun H1 e z oq => ?_
  refine K H1 ls _ (hR.put z oq wI_off fun k2 hk2 => ?_) (hS.put z oq (hR.2 a _ ht).1) hl
  have hk3 : k2 = .inl (5, N) := Option.some.inj (hk2.symm.trans ht)
  subst hk3
  show H1[a]? = some (vp_cell _ _)
  rw [e]
  simp only [ent, arrv, vp_cell_i]
  rw [arrV_store]
  congr 2
  funext j
  by_cases hj : j = i.toNatClampNeg
  · subst hj
    simp [updV, wI, upd]
    rfl
  · simp [updV, wI, upd, hj]
theorem k_aast2 (pc q : Nat) (C : Cx E p s m args meth c own cc nL ret) {a N b : Nat} {i : Int32} (hd : decode cc pc = .ok (.aastore, 1)) (hq : pc + 1 = q) (ht : tA T a 2 N) (hb : tO T b 1) (hin : vp_in i N) (K : KW E T (wR V a i.toNatClampNeg (some b)) p l e R s m args below meth c nL k n Q q L st) : KW E T V p l e R s m args below meth c nL k n Q pc L (.ref b :: .int i :: .ref a :: st) := by
  subst hq
  intro H ls locs hR hS hl
  have hlt : i.toNatClampNeg < N := Nat.not_le.mp fun z => hin (Or.inr z)
  have h0 : ¬ i < 0 := fun z => hin (Or.inl z)
  have hP := hR.one ht
  obtain ⟨r', hr', cellV, g1, g2, g3, -⟩ := (hR.2 b _ hb).2
  have hcls := (C.K.1 1 _ rfl).2
  obtain ⟨kA, comp, k1, k2, k3, -⟩ := (C.K.2 2 _ rfl).2
  have hcomp : comp = E.1.1 1 := Option.some.inj (k3.symm.trans hcls.1)
  subst hcomp
  obtain ⟨kC, hkC, -⟩ := hcls.2
  refine W.aast C.x C.b (hP 0 _ rfl) (fun z h => by cases h) (fun h => by cases h) k1 k2 rfl hkC ⟨h0, by show _ < (arrV _ _ _).slots.size; rw [arrV_size]; exact hlt⟩ g1 (fun z h => by rw [g3] at h; cases h) (by rw [g2]; exact hkC) (by rw [g2]; exact va_assign hcls) rfl rfl hd fun H1 e z oq => ?_
  refine K H1 ls _ (hR.put z oq wR_off fun k2 hk2 => ?_) (hS.put z oq (hR.2 a _ ht).1) hl
  have hk3 : k2 = .inl (2, N) := Option.some.inj (hk2.symm.trans ht)
  subst hk3
  show H1[a]? = some (vp_cell _ _)
  rw [e]
  simp only [ent, arrv, vp_cell_q]
  rw [arrV_store]
  congr 2
  funext j
  by_cases hj : j = i.toNatClampNeg
  · subst hj
    simp [updV, wR, va_up, va_rf]
  · simp [updV, wR, va_up, hj]
theorem k_aast3 (pc q : Nat) (C : Cx E p s m args meth c own cc nL ret) {a N b : Nat} {i : Int32} (hd : decode cc pc = .ok (.aastore, 1)) (hq : pc + 1 = q) (ht : tA T a 3 N) (hb : tO T b 0) (hin : vp_in i N) (K : KW E T (wR V a i.toNatClampNeg (some b)) p l e R s m args below meth c nL k n Q q L st) : KW E T V p l e R s m args below meth c nL k n Q pc L (.ref b :: .int i :: .ref a :: st) := by
  subst hq
  intro H ls locs hR hS hl
  have hlt : i.toNatClampNeg < N := Nat.not_le.mp fun z => hin (Or.inr z)
  have h0 : ¬ i < 0 := fun z => hin (Or.inl z)
  have hP := hR.one ht
  obtain ⟨r', hr', cellV, g1, g2, g3, -⟩ := (hR.2 b _ hb).2
  have hcls := (C.K.1 0 _ rfl).2
  obtain ⟨kA, comp, k1, k2, k3, -⟩ := (C.K.2 3 _ rfl).2
  have hcomp : comp = E.1.1 0 := Option.some.inj (k3.symm.trans hcls.1)
  subst hcomp
  obtain ⟨kC, hkC, -⟩ := hcls.2
  refine W.aast C.x C.b (hP 0 _ rfl) (fun z h => by cases h) (fun h => by cases h) k1 k2 rfl hkC ⟨h0, by show _ < (arrV _ _ _).slots.size; rw [arrV_size]; exact hlt⟩ g1 (fun z h => by rw [g3] at h; cases h) (by rw [g2]; exact hkC) (by rw [g2]; exact va_assign hcls) rfl rfl hd fun H1 e z oq => ?_
  refine K H1 ls _ (hR.put z oq wR_off fun k2 hk2 => ?_) (hS.put z oq (hR.2 a _ ht).1) hl
  have hk3 : k2 = .inl (3, N) := Option.some.inj (hk2.symm.trans ht)
  subst hk3
  show H1[a]? = some (vp_cell _ _)
  rw [e]
  simp only [ent, arrv, vp_cell_q]
  rw [arrV_store]
  congr 2
  funext j
  by_cases hj : j = i.toNatClampNeg
  · subst hj
    simp [updV, wR, va_up, va_rf]
  · simp [updV, wR, va_up, hj]
theorem k_gets0 (pc q : Nat) (C : Cx E p s m args meth c own cc nL ret) {ix : Nat} (hd : decode cc pc = .ok (.getstatic ix, 3)) (hq : pc + 3 = q) (hw : Cond.fieldLink own ix "PantographArm" "LEAST_SETTING" "[I" ∈ GW) (K : KW E T V p l e R s m args below meth c nL k n Q q L (.ref (E.2.2.2 0) :: st)) : KW E T V p l e R s m args below meth c nL k n Q pc L st := by
  subst hq
  intro H ls locs hR hS hl
  exact va_gets C.x C.b C.st.1.1 hS C.ow (C.ts _ hw) (fun _ h => h) hd (K H ls locs hR hS hl)
theorem k_slen0 (pc q : Nat) (C : Cx E p s m args meth c own cc nL ret) (hd : decode cc pc = .ok (.arraylength, 1)) (hq : pc + 1 = q) (K : KW E T V p l e R s m args below meth c nL k n Q q L (.int 5 :: st)) : KW E T V p l e R s m args below meth c nL k n Q pc L (.ref (E.2.2.2 0) :: st) := by
  subst hq
  intro H ls locs hR hS hl
  exact va_slen C.x C.b C.st.1.2.1 (Nat.lt_of_lt_of_le C.st.1.2.2 C.bs) (Nat.not_le.mpr C.st.1.2.2) hS hd (K H ls locs hR hS hl)
theorem k_sald0 (pc q : Nat) (C : Cx E p s m args meth c own cc nL ret) {i : Int32} (hd : decode cc pc = .ok (.iaload, 1)) (hq : pc + 1 = q) (hin : vp_in i 5) (K : KW E T V p l e R s m args below meth c nL k n Q q L (.int (leastv i.toNatClampNeg) :: st)) : KW E T V p l e R s m args below meth c nL k n Q pc L (.int i :: .ref (E.2.2.2 0) :: st) := by
  subst hq
  intro H ls locs hR hS hl
  exact va_sld C.x C.b C.st.1.2.1 (Nat.lt_of_lt_of_le C.st.1.2.2 C.bs) (Nat.not_le.mpr C.st.1.2.2) hS hin hd (K H ls locs hR hS hl)
theorem k_gets1 (pc q : Nat) (C : Cx E p s m args meth c own cc nL ret) {ix : Nat} (hd : decode cc pc = .ok (.getstatic ix, 3)) (hq : pc + 3 = q) (hw : Cond.fieldLink own ix "PantographArm" "MOST_SETTING" "[I" ∈ GW) (K : KW E T V p l e R s m args below meth c nL k n Q q L (.ref (E.2.2.2 1) :: st)) : KW E T V p l e R s m args below meth c nL k n Q pc L st := by
  subst hq
  intro H ls locs hR hS hl
  exact va_gets C.x C.b C.st.2.1.1 hS C.ow (C.ts _ hw) (fun _ h => h) hd (K H ls locs hR hS hl)
theorem k_slen1 (pc q : Nat) (C : Cx E p s m args meth c own cc nL ret) (hd : decode cc pc = .ok (.arraylength, 1)) (hq : pc + 1 = q) (K : KW E T V p l e R s m args below meth c nL k n Q q L (.int 5 :: st)) : KW E T V p l e R s m args below meth c nL k n Q pc L (.ref (E.2.2.2 1) :: st) := by
  subst hq
  intro H ls locs hR hS hl
  exact va_slen C.x C.b C.st.2.1.2.1 (Nat.lt_of_lt_of_le C.st.2.1.2.2 C.bs) (Nat.not_le.mpr C.st.2.1.2.2) hS hd (K H ls locs hR hS hl)
theorem k_sald1 (pc q : Nat) (C : Cx E p s m args meth c own cc nL ret) {i : Int32} (hd : decode cc pc = .ok (.iaload, 1)) (hq : pc + 1 = q) (hin : vp_in i 5) (K : KW E T V p l e R s m args below meth c nL k n Q q L (.int (mostv i.toNatClampNeg) :: st)) : KW E T V p l e R s m args below meth c nL k n Q pc L (.int i :: .ref (E.2.2.2 1) :: st) := by
  subst hq
  intro H ls locs hR hS hl
  exact va_sld C.x C.b C.st.2.1.2.1 (Nat.lt_of_lt_of_le C.st.2.1.2.2 C.bs) (Nat.not_le.mpr C.st.2.1.2.2) hS hin hd (K H ls locs hR hS hl)
theorem k_gets2 (pc q : Nat) (C : Cx E p s m args meth c own cc nL ret) {ix : Nat} (hd : decode cc pc = .ok (.getstatic ix, 3)) (hq : pc + 3 = q) (hw : Cond.fieldLink own ix "PantographArm" "FIRST_SETTING" "[I" ∈ GW) (K : KW E T V p l e R s m args below meth c nL k n Q q L (.ref (E.2.2.2 2) :: st)) : KW E T V p l e R s m args below meth c nL k n Q pc L st := by
  subst hq
  intro H ls locs hR hS hl
  exact va_gets C.x C.b C.st.2.2.1 hS C.ow (C.ts _ hw) (fun _ h => h) hd (K H ls locs hR hS hl)
theorem k_slen2 (pc q : Nat) (C : Cx E p s m args meth c own cc nL ret) (hd : decode cc pc = .ok (.arraylength, 1)) (hq : pc + 1 = q) (K : KW E T V p l e R s m args below meth c nL k n Q q L (.int 5 :: st)) : KW E T V p l e R s m args below meth c nL k n Q pc L (.ref (E.2.2.2 2) :: st) := by
  subst hq
  intro H ls locs hR hS hl
  exact va_slen C.x C.b C.st.2.2.2.1 (Nat.lt_of_lt_of_le C.st.2.2.2.2 C.bs) (Nat.not_le.mpr C.st.2.2.2.2) hS hd (K H ls locs hR hS hl)
theorem k_sald2 (pc q : Nat) (C : Cx E p s m args meth c own cc nL ret) {i : Int32} (hd : decode cc pc = .ok (.iaload, 1)) (hq : pc + 1 = q) (hin : vp_in i 5) (K : KW E T V p l e R s m args below meth c nL k n Q q L (.int (firstv i.toNatClampNeg) :: st)) : KW E T V p l e R s m args below meth c nL k n Q pc L (.int i :: .ref (E.2.2.2 2) :: st) := by
  subst hq
  intro H ls locs hR hS hl
  exact va_sld C.x C.b C.st.2.2.2.1 (Nat.lt_of_lt_of_le C.st.2.2.2.2 C.bs) (Nat.not_le.mpr C.st.2.2.2.2) hS hin hd (K H ls locs hR hS hl)
theorem k_gets2N (pc q : Nat) (C : Cx E p s m args meth c own cc nL ret) {ix : Nat} (hd : decode cc pc = .ok (.getstatic ix, 3)) (hq : pc + 3 = q) (hw : Cond.fieldLinkNest own ix "PantographArm" "FIRST_SETTING" "[I" "PantographArm" ∈ nws) (K : KW E T V p l e R s m args below meth c nL k n Q q L (.ref (E.2.2.2 2) :: st)) : KW E T V p l e R s m args below meth c nL k n Q pc L st := by
  subst hq
  intro H ls locs hR hS hl
  exact va_getsN C.x C.b C.st.2.2.1 hS C.ow (va_Nw.use rfl (C.nw _ hw)) (fun _ h => h) hd (K H ls locs hR hS hl)
theorem k_absl (pc q : Nat) (C : Cx E p s m args meth c own cc nL ret) {ix : Nat} {x : Int64} (hd : decode cc pc = .ok (.invokestatic ix, 3)) (hq : pc + 3 = q) (hw : Cond.methodLink own ix Lib.MathLoose.abs_long.x ∈ GW) (hf : 1 ≤ R.frames) (hlo : (st.map fun v => v.category).sum + 13 ≤ R.locals) (hk : k ≤ R.cells) (hn : n ≤ R.slots) (K : KW E T V p l e R s m args below meth c nL k n Q q L (.long (if 0 < x then x else -x) :: st)) : KW E T V p l e R s m args below meth c nL k n Q pc L (.long x :: st) := by
  subst hq
  intro H ls locs hR hS hl
  exact va_mabs_long C.x C.b (C.ml.trans hl.1.symm) C.ow (C.ts _ hw) (C.ts _ st_m_Lib_MathLoose_abs_long_x) (C.ts _ ini_java_lang_Math) (C.ts _ cd_m_Lib_MathLoose_abs_long_x) hf hlo hk hn hd (K H ls locs hR hS hl)
theorem k_max (pc q : Nat) (C : Cx E p s m args meth c own cc nL ret) {ix : Nat} {x y : Int32} (hd : decode cc pc = .ok (.invokestatic ix, 3)) (hq : pc + 3 = q) (hw : Cond.methodLink own ix Lib.Math.max.name ∈ GW) (hf : 1 ≤ R.frames) (hlo : (st.map fun v => v.category).sum + 13 ≤ R.locals) (hk : k ≤ R.cells) (hn : n ≤ R.slots) (K : KW E T V p l e R s m args below meth c nL k n Q q L (.int (if x < y then y else x) :: st)) : KW E T V p l e R s m args below meth c nL k n Q pc L (.int y :: .int x :: st) := by
  subst hq
  intro H ls locs hR hS hl
  exact va_mmax C.x C.b (C.ml.trans hl.1.symm) C.ow (C.ts _ hw) (C.ts _ st_m_Lib_Math_max_name) (C.ts _ ini_java_lang_Math) (C.ts _ cd_m_Lib_Math_max_name) hf hlo hk hn hd (K H ls locs hR hS hl)
theorem k_min (pc q : Nat) (C : Cx E p s m args meth c own cc nL ret) {ix : Nat} {x y : Int32} (hd : decode cc pc = .ok (.invokestatic ix, 3)) (hq : pc + 3 = q) (hw : Cond.methodLink own ix Lib.Math.min.name ∈ GW) (hf : 1 ≤ R.frames) (hlo : (st.map fun v => v.category).sum + 13 ≤ R.locals) (hk : k ≤ R.cells) (hn : n ≤ R.slots) (K : KW E T V p l e R s m args below meth c nL k n Q q L (.int (if y < x then y else x) :: st)) : KW E T V p l e R s m args below meth c nL k n Q pc L (.int y :: .int x :: st) := by
  subst hq
  intro H ls locs hR hS hl
  exact va_mmin C.x C.b (C.ml.trans hl.1.symm) C.ow (C.ts _ hw) (C.ts _ st_m_Lib_Math_min_name) (C.ts _ ini_java_lang_Math) (C.ts _ cd_m_Lib_Math_min_name) hf hlo hk hn hd (K H ls locs hR hS hl)
end KWS
end
section
def gw (y : MethodName) (cc : ByteArray) (maxL : Nat) (ret : Option FieldType) : List Cond := .code y cc maxL ret :: GW
/-- what the tables say of a method -/
def MI (y : MethodName) (cc : ByteArray) (maxL : Nat) (ret : Option FieldType) (N : Nat) : Prop := Cond.code y cc maxL ret ∈ GW ∧ Cond.initialized y.cls ∈ GW ∧ y.cls ≠ "java/lang/invoke/MethodHandle" ∧ y.cls ≠ "java/lang/invoke/VarHandle" ∧ (parseMethodDescriptor y.desc).map (fun d => d.parameters.length) = some N
theorem gw_in {y : MethodName} {cc : ByteArray} {maxL : Nat} {ret : Option FieldType} {N : Nat} (I : MI y cc maxL ret N) : GoodIn GW (gw y cc maxL ret) := by
  intro w h
  rcases List.mem_cons.mp h with rfl | h
  · exact gw_good _ I.1
  · exact gw_good _ h
section CTS
variable {E : gE} {T : gT} {V : gV} {p : Program} {l : Launch} {e : Env} {R : Room} {s : State} {m : MethodId} {args : Array Value} {below : List Frame} {meth : Method} {c : Code} {own : String} {cc : ByteArray} {nL : Nat} {ret : Option FieldType} {k n : Nat} {Q : State → Prop} {L : List (Nat × Value)} {st : List Value}
theorem Cx.cb (C : Cx E p s m args meth c own cc nL ret) {y : MethodName} {cc' : ByteArray} {maxL : Nat} {ret' : Option FieldType} {N ix mc ms : Nat} {rm : Room} (I : MI y cc' maxL ret' N) (hw : Cond.methodLink own ix y ∈ GW) (hrc : rm.cells = mc) (hrs : rm.slots = ms) (hR : rm.frames + 1 ≤ R.frames ∧ 8 + (maxL + 11) + rm.locals ≤ R.locals) : CallB R s args own ix y cc' maxL ret' (gw y cc' maxL ret') rm mc ms N :=
  callB_of N C.ts (gw_in I) rfl hrc hrs (C.ts _ I.2.1) (C.ts _ hw) ⟨I.2.2.1, I.2.2.2.1, I.2.2.2.2⟩ hR
theorem Cx.cbN (C : Cx E p s m args meth c own cc nL ret) {y : MethodName} {cc' : ByteArray} {maxL : Nat} {ret' : Option FieldType} {N ix mc ms : Nat} {rm : Room} (I : MI y cc' maxL ret' N) (hw : Cond.methodLinkNest own ix y "PantographArm" ∈ nws) (hrc : rm.cells = mc) (hrs : rm.slots = ms) (hR : rm.frames + 1 ≤ R.frames ∧ 8 + (maxL + 11) + rm.locals ≤ R.locals) : va_CN R s args own ix y "PantographArm" cc' maxL ret' (gw y cc' maxL ret') rm mc ms N :=
  va_cnB N C.ts (gw_in I) rfl hrc hrs (C.nw _ hw) (C.ts _ I.2.1) ⟨I.2.2.1, I.2.2.2.1, I.2.2.2.2⟩ hR
theorem Cx.pre (C : Cx E p s m args meth c own cc nL ret) {H : Heap} {locs : List Loc} (hR : Rep E T V H) (hS : va_S (gA E) s.heap H locs) {av : List Value} : PreS s H (va_Pc av (RepS E T V)) av :=
  ⟨RepS.blind, fun U hU hW => ⟨rfl, C.out hS hR hU hW⟩⟩
theorem Cx.preV (C : Cx E p s m args meth c own cc nL ret) {H : Heap} {locs : List Loc} (hR : Rep E T V H) (hS : va_S (gA E) s.heap H locs) {b ci N : Nat} {Cn : String} {Tt : u_T} {ty : Nat → FieldType} (I : CI ci Cn Tt N ty) (hb : tO T b ci) {As : List Value} : PreV s H Cn b (va_Pc (.ref b :: As) (RepS E T V)) As :=
  ⟨RepS.blind, va_recv (q := (Cn, Tt, N)) C.K (hR.one hb) I.1 (q0 := 0) rfl, fun U hU hW => ⟨rfl, C.out hS hR hU hW⟩⟩

def CtI (E : gE) (T : gT) (l : Launch) (y : MethodName) (ws : List Cond) (rm : Room) (av : List Value) (V : gV) (Post : Int32 → gV → Prop) : Prop := Met l y ws rm (va_Pc av (RepS E T V)) (va_Qi Post (RepS E T) (gA E)) 0 0 (gA E)
theorem ctI_of {E : gE} {T : gT} {l : Launch} {y : MethodName} {rm : Room} {av : List Value} {V : gV} {Post : Int32 → gV → Prop} {maxL : Nat} {own : String} {cc : ByteArray} {ret : Option FieldType} (hy : plainName y.cls = true) (ho : y.cls = own) (hlen : (lg_sl av).length ≤ maxL) {L : List (Nat × Value)} (hL : lv_args 0 av = L)
    (body : ∀ (p : Program) (e : Env) (s : State) (m : MethodId) (args : Array Value) (below : List Frame) (meth : Method) (c : Code), Cx E p s m args meth c own cc maxL ret → KW E T V p l e rm s m args below meth c maxL 0 0 (MQ below (va_Qi Post (RepS E T) (gA E)) args s 0 0 (gA E)) 0 L []) : CtI E T l y (gw y cc maxL ret) rm av V Post := by
  refine Met.ofW (cc := cc) (maxL := maxL) (ret := ret) hy rfl ?_
  intro p e s m args below meth c s₁ B hml hv
  obtain ⟨rfl, h1, h2, h3, h4, h5, h6, h7⟩ := hv
  have hts : ∀ w ∈ GW, w.before av.toArray s = true := fun w h => atoms_spec (ws := gw y cc maxL ret) B.pre w (List.mem_cons_of_mem _ h)
  have C : Cx E p s m av.toArray meth c own cc maxL ret := ⟨B.exec, B.bytes, hml, by rw [← ho]; exact findClass_of_methodNamed B.named, hts, B.notSynchronized, h3, h4, h5, h6, h2, B.returns, h7⟩
  have hl := lv_entry av (n := maxL) hlen
  rw [lg_entry_eq]
  exact body p e s m _ below meth c C s.heap _ [] h1 va_S.rf (hL ▸ hl)
theorem k_callVI (pc q : Nat) (C : Cx E p s m args meth c own cc nL ret) {y : MethodName} {cc' : ByteArray} {maxL N ix : Nat} {ret' : Option FieldType} {f lo : Nat} {b ci Nf : Nat} {Cn : String} {Tt : u_T} {ty : Nat → FieldType} {Post : Int32 → gV → Prop} (As rest : List Value) (hd : decode cc pc = .ok (.invokevirtual ix, 3)) (hq : pc + 3 = q) (hM : CtI E T l y (gw y cc' maxL ret') { frames := f, cells := 0, slots := 0, locals := lo } (.ref b :: As) V Post) (I : MI y cc' maxL ret' N) (hw : Cond.methodLink own ix y ∈ GW) (hin : Cond.instanceMethod y ∈ GW) (hse : Cond.selects Cn y y ∈ GW) (Ic : CI ci Cn Tt Nf ty) (hb : tO T b ci) (hn : As.length = N) (hst : st = As.reverse ++ .ref b :: rest) (hroom : f + 1 ≤ R.frames ∧ 8 + (maxL + 11) + lo ≤ R.locals) (hcat : (rest.map fun v => v.category).sum ≤ 8) (hk0 : k ≤ R.cells) (hn0 : n ≤ R.slots)
    (kk : ∀ (r : Int32) (V' : gV), Post r V' → KW E T V' p l e R s m args below meth c nL k n Q q L (.int r :: rest)) : KW E T V p l e R s m args below meth c nL k n Q pc L st := by
  subst hq
  intro H ls locs hR hS hl
  refine va_calli (va_runV (As := As) (rest := rest) ⟨C.x, C.b, C.ml, C.ow, C.ts⟩ hM ⟨C.cb I hw rfl rfl hroom, C.ts _ hin, C.ts _ hse⟩ (C.preV hR hS Ic hb) rfl hn hl.1 hst (lv_room hcat) hd ⟨hk0, hn0⟩) hS (fun q _ h => h) (fun q h => h) (fun r u t H1 locs1 ht hvm hw hB hz1 hk1 hS1 => ?_)
  exact kk r u hw H1 ls locs1 (ht ▸ hB.1) hS1 hl
theorem k_callSI (pc q : Nat) (C : Cx E p s m args meth c own cc nL ret) {y : MethodName} {cc' : ByteArray} {maxL N ix : Nat} {ret' : Option FieldType} {f lo : Nat}  {Post : Int32 → gV → Prop} (As rest : List Value) (hd : decode cc pc = .ok (.invokestatic ix, 3)) (hq : pc + 3 = q) (hM : CtI E T l y (gw y cc' maxL ret') { frames := f, cells := 0, slots := 0, locals := lo } As V Post) (I : MI y cc' maxL ret' N) (hw : Cond.methodLink own ix y ∈ GW) (hstt : Cond.static y ∈ GW) (hn : As.length = N) (hst : st = As.reverse ++ rest) (hroom : f + 1 ≤ R.frames ∧ 8 + (maxL + 11) + lo ≤ R.locals) (hcat : (rest.map fun v => v.category).sum ≤ 8) (hk0 : k ≤ R.cells) (hn0 : n ≤ R.slots)
    (kk : ∀ (r : Int32) (V' : gV), Post r V' → KW E T V' p l e R s m args below meth c nL k n Q q L (.int r :: rest)) : KW E T V p l e R s m args below meth c nL k n Q pc L st := by
  subst hq
  intro H ls locs hR hS hl
  refine va_calli (va_runS (As := As) (rest := rest) ⟨C.x, C.b, C.ml, C.ow, C.ts⟩ hM ⟨C.cb I hw rfl rfl hroom, C.ts _ hstt⟩ (C.pre hR hS) rfl hn hl.1 hst (lv_room hcat) hd ⟨hk0, hn0⟩) hS (fun q _ h => h) (fun q h => h) (fun r u t H1 locs1 ht hvm hw hB hz1 hk1 hS1 => ?_)
  exact kk r u hw H1 ls locs1 (ht ▸ hB.1) hS1 hl
theorem k_callSNI (pc q : Nat) (C : Cx E p s m args meth c own cc nL ret) {y : MethodName} {cc' : ByteArray} {maxL N ix : Nat} {ret' : Option FieldType} {f lo : Nat}  {Post : Int32 → gV → Prop} (As rest : List Value) (hd : decode cc pc = .ok (.invokestatic ix, 3)) (hq : pc + 3 = q) (hM : CtI E T l y (gw y cc' maxL ret') { frames := f, cells := 0, slots := 0, locals := lo } As V Post) (I : MI y cc' maxL ret' N) (hw : Cond.methodLinkNest own ix y "PantographArm" ∈ nws) (hstt : Cond.static y ∈ GW) (hn : As.length = N) (hst : st = As.reverse ++ rest) (hroom : f + 1 ≤ R.frames ∧ 8 + (maxL + 11) + lo ≤ R.locals) (hcat : (rest.map fun v => v.category).sum ≤ 8) (hk0 : k ≤ R.cells) (hn0 : n ≤ R.slots)
    (kk : ∀ (r : Int32) (V' : gV), Post r V' → KW E T V' p l e R s m args below meth c nL k n Q q L (.int r :: rest)) : KW E T V p l e R s m args below meth c nL k n Q pc L st := by
  subst hq
  intro H ls locs hR hS hl
  refine va_calli (va_runSN (As := As) (rest := rest) ⟨C.x, C.b, C.ml, C.ow, C.ts⟩ hM ⟨C.cbN I hw rfl rfl hroom, C.ts _ hstt, trivial⟩ (C.pre hR hS) rfl hn hl.1 hst (lv_room hcat) hd ⟨hk0, hn0⟩) hS (fun q _ h => h) (fun q h => h) (fun r u t H1 locs1 ht hvm hw hB hz1 hk1 hS1 => ?_)
  exact kk r u hw H1 ls locs1 (ht ▸ hB.1) hS1 hl
def CtL (E : gE) (T : gT) (l : Launch) (y : MethodName) (ws : List Cond) (rm : Room) (av : List Value) (V : gV) (Post : Int64 → gV → Prop) : Prop := Met l y ws rm (va_Pc av (RepS E T V)) (va_Ql Post (RepS E T) (gA E)) 0 0 (gA E)
theorem ctL_of {E : gE} {T : gT} {l : Launch} {y : MethodName} {rm : Room} {av : List Value} {V : gV} {Post : Int64 → gV → Prop} {maxL : Nat} {own : String} {cc : ByteArray} {ret : Option FieldType} (hy : plainName y.cls = true) (ho : y.cls = own) (hlen : (lg_sl av).length ≤ maxL) {L : List (Nat × Value)} (hL : lv_args 0 av = L)
    (body : ∀ (p : Program) (e : Env) (s : State) (m : MethodId) (args : Array Value) (below : List Frame) (meth : Method) (c : Code), Cx E p s m args meth c own cc maxL ret → KW E T V p l e rm s m args below meth c maxL 0 0 (MQ below (va_Ql Post (RepS E T) (gA E)) args s 0 0 (gA E)) 0 L []) : CtL E T l y (gw y cc maxL ret) rm av V Post := by
  refine Met.ofW (cc := cc) (maxL := maxL) (ret := ret) hy rfl ?_
  intro p e s m args below meth c s₁ B hml hv
  obtain ⟨rfl, h1, h2, h3, h4, h5, h6, h7⟩ := hv
  have hts : ∀ w ∈ GW, w.before av.toArray s = true := fun w h => atoms_spec (ws := gw y cc maxL ret) B.pre w (List.mem_cons_of_mem _ h)
  have C : Cx E p s m av.toArray meth c own cc maxL ret := ⟨B.exec, B.bytes, hml, by rw [← ho]; exact findClass_of_methodNamed B.named, hts, B.notSynchronized, h3, h4, h5, h6, h2, B.returns, h7⟩
  have hl := lv_entry av (n := maxL) hlen
  rw [lg_entry_eq]
  exact body p e s m _ below meth c C s.heap _ [] h1 va_S.rf (hL ▸ hl)
theorem k_callVL (pc q : Nat) (C : Cx E p s m args meth c own cc nL ret) {y : MethodName} {cc' : ByteArray} {maxL N ix : Nat} {ret' : Option FieldType} {f lo : Nat} {b ci Nf : Nat} {Cn : String} {Tt : u_T} {ty : Nat → FieldType} {Post : Int64 → gV → Prop} (As rest : List Value) (hd : decode cc pc = .ok (.invokevirtual ix, 3)) (hq : pc + 3 = q) (hM : CtL E T l y (gw y cc' maxL ret') { frames := f, cells := 0, slots := 0, locals := lo } (.ref b :: As) V Post) (I : MI y cc' maxL ret' N) (hw : Cond.methodLink own ix y ∈ GW) (hin : Cond.instanceMethod y ∈ GW) (hse : Cond.selects Cn y y ∈ GW) (Ic : CI ci Cn Tt Nf ty) (hb : tO T b ci) (hn : As.length = N) (hst : st = As.reverse ++ .ref b :: rest) (hroom : f + 1 ≤ R.frames ∧ 8 + (maxL + 11) + lo ≤ R.locals) (hcat : (rest.map fun v => v.category).sum ≤ 8) (hk0 : k ≤ R.cells) (hn0 : n ≤ R.slots)
    (kk : ∀ (r : Int64) (V' : gV), Post r V' → KW E T V' p l e R s m args below meth c nL k n Q q L (.long r :: rest)) : KW E T V p l e R s m args below meth c nL k n Q pc L st := by
  subst hq
  intro H ls locs hR hS hl
  refine va_calll (va_runV (As := As) (rest := rest) ⟨C.x, C.b, C.ml, C.ow, C.ts⟩ hM ⟨C.cb I hw rfl rfl hroom, C.ts _ hin, C.ts _ hse⟩ (C.preV hR hS Ic hb) rfl hn hl.1 hst (lv_room hcat) hd ⟨hk0, hn0⟩) hS (fun q _ h => h) (fun q h => h) (fun r u t H1 locs1 ht hvm hw hB hz1 hk1 hS1 => ?_)
  exact kk r u hw H1 ls locs1 (ht ▸ hB.1) hS1 hl
theorem k_callSL (pc q : Nat) (C : Cx E p s m args meth c own cc nL ret) {y : MethodName} {cc' : ByteArray} {maxL N ix : Nat} {ret' : Option FieldType} {f lo : Nat}  {Post : Int64 → gV → Prop} (As rest : List Value) (hd : decode cc pc = .ok (.invokestatic ix, 3)) (hq : pc + 3 = q) (hM : CtL E T l y (gw y cc' maxL ret') { frames := f, cells := 0, slots := 0, locals := lo } As V Post) (I : MI y cc' maxL ret' N) (hw : Cond.methodLink own ix y ∈ GW) (hstt : Cond.static y ∈ GW) (hn : As.length = N) (hst : st = As.reverse ++ rest) (hroom : f + 1 ≤ R.frames ∧ 8 + (maxL + 11) + lo ≤ R.locals) (hcat : (rest.map fun v => v.category).sum ≤ 8) (hk0 : k ≤ R.cells) (hn0 : n ≤ R.slots)
    (kk : ∀ (r : Int64) (V' : gV), Post r V' → KW E T V' p l e R s m args below meth c nL k n Q q L (.long r :: rest)) : KW E T V p l e R s m args below meth c nL k n Q pc L st := by
  subst hq
  intro H ls locs hR hS hl
  refine va_calll (va_runS (As := As) (rest := rest) ⟨C.x, C.b, C.ml, C.ow, C.ts⟩ hM ⟨C.cb I hw rfl rfl hroom, C.ts _ hstt⟩ (C.pre hR hS) rfl hn hl.1 hst (lv_room hcat) hd ⟨hk0, hn0⟩) hS (fun q _ h => h) (fun q h => h) (fun r u t H1 locs1 ht hvm hw hB hz1 hk1 hS1 => ?_)
  exact kk r u hw H1 ls locs1 (ht ▸ hB.1) hS1 hl
theorem k_callSNL (pc q : Nat) (C : Cx E p s m args meth c own cc nL ret) {y : MethodName} {cc' : ByteArray} {maxL N ix : Nat} {ret' : Option FieldType} {f lo : Nat}  {Post : Int64 → gV → Prop} (As rest : List Value) (hd : decode cc pc = .ok (.invokestatic ix, 3)) (hq : pc + 3 = q) (hM : CtL E T l y (gw y cc' maxL ret') { frames := f, cells := 0, slots := 0, locals := lo } As V Post) (I : MI y cc' maxL ret' N) (hw : Cond.methodLinkNest own ix y "PantographArm" ∈ nws) (hstt : Cond.static y ∈ GW) (hn : As.length = N) (hst : st = As.reverse ++ rest) (hroom : f + 1 ≤ R.frames ∧ 8 + (maxL + 11) + lo ≤ R.locals) (hcat : (rest.map fun v => v.category).sum ≤ 8) (hk0 : k ≤ R.cells) (hn0 : n ≤ R.slots)
    (kk : ∀ (r : Int64) (V' : gV), Post r V' → KW E T V' p l e R s m args below meth c nL k n Q q L (.long r :: rest)) : KW E T V p l e R s m args below meth c nL k n Q pc L st := by
  subst hq
  intro H ls locs hR hS hl
  refine va_calll (va_runSN (As := As) (rest := rest) ⟨C.x, C.b, C.ml, C.ow, C.ts⟩ hM ⟨C.cbN I hw rfl rfl hroom, C.ts _ hstt, trivial⟩ (C.pre hR hS) rfl hn hl.1 hst (lv_room hcat) hd ⟨hk0, hn0⟩) hS (fun q _ h => h) (fun q h => h) (fun r u t H1 locs1 ht hvm hw hB hz1 hk1 hS1 => ?_)
  exact kk r u hw H1 ls locs1 (ht ▸ hB.1) hS1 hl
def CtF (E : gE) (T : gT) (l : Launch) (y : MethodName) (ws : List Cond) (rm : Room) (av : List Value) (V : gV) (Post : UInt32 → gV → Prop) : Prop := Met l y ws rm (va_Pc av (RepS E T V)) (va_Qf Post (RepS E T) (gA E)) 0 0 (gA E)
theorem ctF_of {E : gE} {T : gT} {l : Launch} {y : MethodName} {rm : Room} {av : List Value} {V : gV} {Post : UInt32 → gV → Prop} {maxL : Nat} {own : String} {cc : ByteArray} {ret : Option FieldType} (hy : plainName y.cls = true) (ho : y.cls = own) (hlen : (lg_sl av).length ≤ maxL) {L : List (Nat × Value)} (hL : lv_args 0 av = L)
    (body : ∀ (p : Program) (e : Env) (s : State) (m : MethodId) (args : Array Value) (below : List Frame) (meth : Method) (c : Code), Cx E p s m args meth c own cc maxL ret → KW E T V p l e rm s m args below meth c maxL 0 0 (MQ below (va_Qf Post (RepS E T) (gA E)) args s 0 0 (gA E)) 0 L []) : CtF E T l y (gw y cc maxL ret) rm av V Post := by
  refine Met.ofW (cc := cc) (maxL := maxL) (ret := ret) hy rfl ?_
  intro p e s m args below meth c s₁ B hml hv
  obtain ⟨rfl, h1, h2, h3, h4, h5, h6, h7⟩ := hv
  have hts : ∀ w ∈ GW, w.before av.toArray s = true := fun w h => atoms_spec (ws := gw y cc maxL ret) B.pre w (List.mem_cons_of_mem _ h)
  have C : Cx E p s m av.toArray meth c own cc maxL ret := ⟨B.exec, B.bytes, hml, by rw [← ho]; exact findClass_of_methodNamed B.named, hts, B.notSynchronized, h3, h4, h5, h6, h2, B.returns, h7⟩
  have hl := lv_entry av (n := maxL) hlen
  rw [lg_entry_eq]
  exact body p e s m _ below meth c C s.heap _ [] h1 va_S.rf (hL ▸ hl)
theorem k_callVF (pc q : Nat) (C : Cx E p s m args meth c own cc nL ret) {y : MethodName} {cc' : ByteArray} {maxL N ix : Nat} {ret' : Option FieldType} {f lo : Nat} {b ci Nf : Nat} {Cn : String} {Tt : u_T} {ty : Nat → FieldType} {Post : UInt32 → gV → Prop} (As rest : List Value) (hd : decode cc pc = .ok (.invokevirtual ix, 3)) (hq : pc + 3 = q) (hM : CtF E T l y (gw y cc' maxL ret') { frames := f, cells := 0, slots := 0, locals := lo } (.ref b :: As) V Post) (I : MI y cc' maxL ret' N) (hw : Cond.methodLink own ix y ∈ GW) (hin : Cond.instanceMethod y ∈ GW) (hse : Cond.selects Cn y y ∈ GW) (Ic : CI ci Cn Tt Nf ty) (hb : tO T b ci) (hn : As.length = N) (hst : st = As.reverse ++ .ref b :: rest) (hroom : f + 1 ≤ R.frames ∧ 8 + (maxL + 11) + lo ≤ R.locals) (hcat : (rest.map fun v => v.category).sum ≤ 8) (hk0 : k ≤ R.cells) (hn0 : n ≤ R.slots)
    (kk : ∀ (r : UInt32) (V' : gV), Post r V' → KW E T V' p l e R s m args below meth c nL k n Q q L (.float r :: rest)) : KW E T V p l e R s m args below meth c nL k n Q pc L st := by
  subst hq
  intro H ls locs hR hS hl
  refine va_callf (va_runV (As := As) (rest := rest) ⟨C.x, C.b, C.ml, C.ow, C.ts⟩ hM ⟨C.cb I hw rfl rfl hroom, C.ts _ hin, C.ts _ hse⟩ (C.preV hR hS Ic hb) rfl hn hl.1 hst (lv_room hcat) hd ⟨hk0, hn0⟩) hS (fun q _ h => h) (fun q h => h) (fun r u t H1 locs1 ht hvm hw hB hz1 hk1 hS1 => ?_)
  exact kk r u hw H1 ls locs1 (ht ▸ hB.1) hS1 hl
theorem k_callSF (pc q : Nat) (C : Cx E p s m args meth c own cc nL ret) {y : MethodName} {cc' : ByteArray} {maxL N ix : Nat} {ret' : Option FieldType} {f lo : Nat}  {Post : UInt32 → gV → Prop} (As rest : List Value) (hd : decode cc pc = .ok (.invokestatic ix, 3)) (hq : pc + 3 = q) (hM : CtF E T l y (gw y cc' maxL ret') { frames := f, cells := 0, slots := 0, locals := lo } As V Post) (I : MI y cc' maxL ret' N) (hw : Cond.methodLink own ix y ∈ GW) (hstt : Cond.static y ∈ GW) (hn : As.length = N) (hst : st = As.reverse ++ rest) (hroom : f + 1 ≤ R.frames ∧ 8 + (maxL + 11) + lo ≤ R.locals) (hcat : (rest.map fun v => v.category).sum ≤ 8) (hk0 : k ≤ R.cells) (hn0 : n ≤ R.slots)
    (kk : ∀ (r : UInt32) (V' : gV), Post r V' → KW E T V' p l e R s m args below meth c nL k n Q q L (.float r :: rest)) : KW E T V p l e R s m args below meth c nL k n Q pc L st := by
  subst hq
  intro H ls locs hR hS hl
  refine va_callf (va_runS (As := As) (rest := rest) ⟨C.x, C.b, C.ml, C.ow, C.ts⟩ hM ⟨C.cb I hw rfl rfl hroom, C.ts _ hstt⟩ (C.pre hR hS) rfl hn hl.1 hst (lv_room hcat) hd ⟨hk0, hn0⟩) hS (fun q _ h => h) (fun q h => h) (fun r u t H1 locs1 ht hvm hw hB hz1 hk1 hS1 => ?_)
  exact kk r u hw H1 ls locs1 (ht ▸ hB.1) hS1 hl
theorem k_callSNF (pc q : Nat) (C : Cx E p s m args meth c own cc nL ret) {y : MethodName} {cc' : ByteArray} {maxL N ix : Nat} {ret' : Option FieldType} {f lo : Nat}  {Post : UInt32 → gV → Prop} (As rest : List Value) (hd : decode cc pc = .ok (.invokestatic ix, 3)) (hq : pc + 3 = q) (hM : CtF E T l y (gw y cc' maxL ret') { frames := f, cells := 0, slots := 0, locals := lo } As V Post) (I : MI y cc' maxL ret' N) (hw : Cond.methodLinkNest own ix y "PantographArm" ∈ nws) (hstt : Cond.static y ∈ GW) (hn : As.length = N) (hst : st = As.reverse ++ rest) (hroom : f + 1 ≤ R.frames ∧ 8 + (maxL + 11) + lo ≤ R.locals) (hcat : (rest.map fun v => v.category).sum ≤ 8) (hk0 : k ≤ R.cells) (hn0 : n ≤ R.slots)
    (kk : ∀ (r : UInt32) (V' : gV), Post r V' → KW E T V' p l e R s m args below meth c nL k n Q q L (.float r :: rest)) : KW E T V p l e R s m args below meth c nL k n Q pc L st := by
  subst hq
  intro H ls locs hR hS hl
  refine va_callf (va_runSN (As := As) (rest := rest) ⟨C.x, C.b, C.ml, C.ow, C.ts⟩ hM ⟨C.cbN I hw rfl rfl hroom, C.ts _ hstt, trivial⟩ (C.pre hR hS) rfl hn hl.1 hst (lv_room hcat) hd ⟨hk0, hn0⟩) hS (fun q _ h => h) (fun q h => h) (fun r u t H1 locs1 ht hvm hw hB hz1 hk1 hS1 => ?_)
  exact kk r u hw H1 ls locs1 (ht ▸ hB.1) hS1 hl
def CtQ (E : gE) (T : gT) (l : Launch) (y : MethodName) (ws : List Cond) (rm : Room) (av : List Value) (V : gV) (Post : Option Nat → gV → Prop) : Prop := Met l y ws rm (va_Pc av (RepS E T V)) (va_Qq Post (RepS E T) (gA E)) 0 0 (gA E)
theorem ctQ_of {E : gE} {T : gT} {l : Launch} {y : MethodName} {rm : Room} {av : List Value} {V : gV} {Post : Option Nat → gV → Prop} {maxL : Nat} {own : String} {cc : ByteArray} {ret : Option FieldType} (hy : plainName y.cls = true) (ho : y.cls = own) (hlen : (lg_sl av).length ≤ maxL) {L : List (Nat × Value)} (hL : lv_args 0 av = L)
    (body : ∀ (p : Program) (e : Env) (s : State) (m : MethodId) (args : Array Value) (below : List Frame) (meth : Method) (c : Code), Cx E p s m args meth c own cc maxL ret → KW E T V p l e rm s m args below meth c maxL 0 0 (MQ below (va_Qq Post (RepS E T) (gA E)) args s 0 0 (gA E)) 0 L []) : CtQ E T l y (gw y cc maxL ret) rm av V Post := by
  refine Met.ofW (cc := cc) (maxL := maxL) (ret := ret) hy rfl ?_
  intro p e s m args below meth c s₁ B hml hv
  obtain ⟨rfl, h1, h2, h3, h4, h5, h6, h7⟩ := hv
  have hts : ∀ w ∈ GW, w.before av.toArray s = true := fun w h => atoms_spec (ws := gw y cc maxL ret) B.pre w (List.mem_cons_of_mem _ h)
  have C : Cx E p s m av.toArray meth c own cc maxL ret := ⟨B.exec, B.bytes, hml, by rw [← ho]; exact findClass_of_methodNamed B.named, hts, B.notSynchronized, h3, h4, h5, h6, h2, B.returns, h7⟩
  have hl := lv_entry av (n := maxL) hlen
  rw [lg_entry_eq]
  exact body p e s m _ below meth c C s.heap _ [] h1 va_S.rf (hL ▸ hl)
theorem k_callVQ (pc q : Nat) (C : Cx E p s m args meth c own cc nL ret) {y : MethodName} {cc' : ByteArray} {maxL N ix : Nat} {ret' : Option FieldType} {f lo : Nat} {b ci Nf : Nat} {Cn : String} {Tt : u_T} {ty : Nat → FieldType} {Post : Option Nat → gV → Prop} (As rest : List Value) (hd : decode cc pc = .ok (.invokevirtual ix, 3)) (hq : pc + 3 = q) (hM : CtQ E T l y (gw y cc' maxL ret') { frames := f, cells := 0, slots := 0, locals := lo } (.ref b :: As) V Post) (I : MI y cc' maxL ret' N) (hw : Cond.methodLink own ix y ∈ GW) (hin : Cond.instanceMethod y ∈ GW) (hse : Cond.selects Cn y y ∈ GW) (Ic : CI ci Cn Tt Nf ty) (hb : tO T b ci) (hn : As.length = N) (hst : st = As.reverse ++ .ref b :: rest) (hroom : f + 1 ≤ R.frames ∧ 8 + (maxL + 11) + lo ≤ R.locals) (hcat : (rest.map fun v => v.category).sum ≤ 8) (hk0 : k ≤ R.cells) (hn0 : n ≤ R.slots)
    (kk : ∀ (r : Option Nat) (V' : gV), Post r V' → KW E T V' p l e R s m args below meth c nL k n Q q L (va_rf r :: rest)) : KW E T V p l e R s m args below meth c nL k n Q pc L st := by
  subst hq
  intro H ls locs hR hS hl
  refine va_callq (va_runV (As := As) (rest := rest) ⟨C.x, C.b, C.ml, C.ow, C.ts⟩ hM ⟨C.cb I hw rfl rfl hroom, C.ts _ hin, C.ts _ hse⟩ (C.preV hR hS Ic hb) rfl hn hl.1 hst (lv_room hcat) hd ⟨hk0, hn0⟩) hS (fun q _ h => h) (fun q h => h) (fun r u t H1 locs1 ht hvm hw hB hz1 hk1 hS1 => ?_)
  exact kk r u hw H1 ls locs1 (ht ▸ hB.1) hS1 hl
theorem k_callSQ (pc q : Nat) (C : Cx E p s m args meth c own cc nL ret) {y : MethodName} {cc' : ByteArray} {maxL N ix : Nat} {ret' : Option FieldType} {f lo : Nat}  {Post : Option Nat → gV → Prop} (As rest : List Value) (hd : decode cc pc = .ok (.invokestatic ix, 3)) (hq : pc + 3 = q) (hM : CtQ E T l y (gw y cc' maxL ret') { frames := f, cells := 0, slots := 0, locals := lo } As V Post) (I : MI y cc' maxL ret' N) (hw : Cond.methodLink own ix y ∈ GW) (hstt : Cond.static y ∈ GW) (hn : As.length = N) (hst : st = As.reverse ++ rest) (hroom : f + 1 ≤ R.frames ∧ 8 + (maxL + 11) + lo ≤ R.locals) (hcat : (rest.map fun v => v.category).sum ≤ 8) (hk0 : k ≤ R.cells) (hn0 : n ≤ R.slots)
    (kk : ∀ (r : Option Nat) (V' : gV), Post r V' → KW E T V' p l e R s m args below meth c nL k n Q q L (va_rf r :: rest)) : KW E T V p l e R s m args below meth c nL k n Q pc L st := by
  subst hq
  intro H ls locs hR hS hl
  refine va_callq (va_runS (As := As) (rest := rest) ⟨C.x, C.b, C.ml, C.ow, C.ts⟩ hM ⟨C.cb I hw rfl rfl hroom, C.ts _ hstt⟩ (C.pre hR hS) rfl hn hl.1 hst (lv_room hcat) hd ⟨hk0, hn0⟩) hS (fun q _ h => h) (fun q h => h) (fun r u t H1 locs1 ht hvm hw hB hz1 hk1 hS1 => ?_)
  exact kk r u hw H1 ls locs1 (ht ▸ hB.1) hS1 hl
theorem k_callSNQ (pc q : Nat) (C : Cx E p s m args meth c own cc nL ret) {y : MethodName} {cc' : ByteArray} {maxL N ix : Nat} {ret' : Option FieldType} {f lo : Nat}  {Post : Option Nat → gV → Prop} (As rest : List Value) (hd : decode cc pc = .ok (.invokestatic ix, 3)) (hq : pc + 3 = q) (hM : CtQ E T l y (gw y cc' maxL ret') { frames := f, cells := 0, slots := 0, locals := lo } As V Post) (I : MI y cc' maxL ret' N) (hw : Cond.methodLinkNest own ix y "PantographArm" ∈ nws) (hstt : Cond.static y ∈ GW) (hn : As.length = N) (hst : st = As.reverse ++ rest) (hroom : f + 1 ≤ R.frames ∧ 8 + (maxL + 11) + lo ≤ R.locals) (hcat : (rest.map fun v => v.category).sum ≤ 8) (hk0 : k ≤ R.cells) (hn0 : n ≤ R.slots)
    (kk : ∀ (r : Option Nat) (V' : gV), Post r V' → KW E T V' p l e R s m args below meth c nL k n Q q L (va_rf r :: rest)) : KW E T V p l e R s m args below meth c nL k n Q pc L st := by
  subst hq
  intro H ls locs hR hS hl
  refine va_callq (va_runSN (As := As) (rest := rest) ⟨C.x, C.b, C.ml, C.ow, C.ts⟩ hM ⟨C.cbN I hw rfl rfl hroom, C.ts _ hstt, trivial⟩ (C.pre hR hS) rfl hn hl.1 hst (lv_room hcat) hd ⟨hk0, hn0⟩) hS (fun q _ h => h) (fun q h => h) (fun r u t H1 locs1 ht hvm hw hB hz1 hk1 hS1 => ?_)
  exact kk r u hw H1 ls locs1 (ht ▸ hB.1) hS1 hl
def CtV (E : gE) (T : gT) (l : Launch) (y : MethodName) (ws : List Cond) (rm : Room) (av : List Value) (V : gV) (Post : gV → Prop) : Prop := Met l y ws rm (va_Pc av (RepS E T V)) (va_Qv Post (RepS E T) (gA E)) 0 0 (gA E)
theorem ctV_of {E : gE} {T : gT} {l : Launch} {y : MethodName} {rm : Room} {av : List Value} {V : gV} {Post : gV → Prop} {maxL : Nat} {own : String} {cc : ByteArray} {ret : Option FieldType} (hy : plainName y.cls = true) (ho : y.cls = own) (hlen : (lg_sl av).length ≤ maxL) {L : List (Nat × Value)} (hL : lv_args 0 av = L)
    (body : ∀ (p : Program) (e : Env) (s : State) (m : MethodId) (args : Array Value) (below : List Frame) (meth : Method) (c : Code), Cx E p s m args meth c own cc maxL ret → KW E T V p l e rm s m args below meth c maxL 0 0 (MQ below (va_Qv Post (RepS E T) (gA E)) args s 0 0 (gA E)) 0 L []) : CtV E T l y (gw y cc maxL ret) rm av V Post := by
  refine Met.ofW (cc := cc) (maxL := maxL) (ret := ret) hy rfl ?_
  intro p e s m args below meth c s₁ B hml hv
  obtain ⟨rfl, h1, h2, h3, h4, h5, h6, h7⟩ := hv
  have hts : ∀ w ∈ GW, w.before av.toArray s = true := fun w h => atoms_spec (ws := gw y cc maxL ret) B.pre w (List.mem_cons_of_mem _ h)
  have C : Cx E p s m av.toArray meth c own cc maxL ret := ⟨B.exec, B.bytes, hml, by rw [← ho]; exact findClass_of_methodNamed B.named, hts, B.notSynchronized, h3, h4, h5, h6, h2, B.returns, h7⟩
  have hl := lv_entry av (n := maxL) hlen
  rw [lg_entry_eq]
  exact body p e s m _ below meth c C s.heap _ [] h1 va_S.rf (hL ▸ hl)
theorem k_callVV (pc q : Nat) (C : Cx E p s m args meth c own cc nL ret) {y : MethodName} {cc' : ByteArray} {maxL N ix : Nat} {ret' : Option FieldType} {f lo : Nat} {b ci Nf : Nat} {Cn : String} {Tt : u_T} {ty : Nat → FieldType} {Post : gV → Prop} (As rest : List Value) (hd : decode cc pc = .ok (.invokevirtual ix, 3)) (hq : pc + 3 = q) (hM : CtV E T l y (gw y cc' maxL ret') { frames := f, cells := 0, slots := 0, locals := lo } (.ref b :: As) V Post) (I : MI y cc' maxL ret' N) (hw : Cond.methodLink own ix y ∈ GW) (hin : Cond.instanceMethod y ∈ GW) (hse : Cond.selects Cn y y ∈ GW) (Ic : CI ci Cn Tt Nf ty) (hb : tO T b ci) (hn : As.length = N) (hst : st = As.reverse ++ .ref b :: rest) (hroom : f + 1 ≤ R.frames ∧ 8 + (maxL + 11) + lo ≤ R.locals) (hcat : (rest.map fun v => v.category).sum ≤ 8) (hk0 : k ≤ R.cells) (hn0 : n ≤ R.slots)
    (kk : ∀ (V' : gV), Post V' → KW E T V' p l e R s m args below meth c nL k n Q q L rest) : KW E T V p l e R s m args below meth c nL k n Q pc L st := by
  subst hq
  intro H ls locs hR hS hl
  refine va_callv (va_runV (As := As) (rest := rest) ⟨C.x, C.b, C.ml, C.ow, C.ts⟩ hM ⟨C.cb I hw rfl rfl hroom, C.ts _ hin, C.ts _ hse⟩ (C.preV hR hS Ic hb) rfl hn hl.1 hst (lv_room hcat) hd ⟨hk0, hn0⟩) hS (fun q _ h => h) (fun q h => h) (fun u t H1 locs1 ht hvm hw hB hz1 hk1 hS1 => ?_)
  exact kk u hw H1 ls locs1 (ht ▸ hB.1) hS1 hl
theorem k_callSV (pc q : Nat) (C : Cx E p s m args meth c own cc nL ret) {y : MethodName} {cc' : ByteArray} {maxL N ix : Nat} {ret' : Option FieldType} {f lo : Nat}  {Post : gV → Prop} (As rest : List Value) (hd : decode cc pc = .ok (.invokestatic ix, 3)) (hq : pc + 3 = q) (hM : CtV E T l y (gw y cc' maxL ret') { frames := f, cells := 0, slots := 0, locals := lo } As V Post) (I : MI y cc' maxL ret' N) (hw : Cond.methodLink own ix y ∈ GW) (hstt : Cond.static y ∈ GW) (hn : As.length = N) (hst : st = As.reverse ++ rest) (hroom : f + 1 ≤ R.frames ∧ 8 + (maxL + 11) + lo ≤ R.locals) (hcat : (rest.map fun v => v.category).sum ≤ 8) (hk0 : k ≤ R.cells) (hn0 : n ≤ R.slots)
    (kk : ∀ (V' : gV), Post V' → KW E T V' p l e R s m args below meth c nL k n Q q L rest) : KW E T V p l e R s m args below meth c nL k n Q pc L st := by
  subst hq
  intro H ls locs hR hS hl
  refine va_callv (va_runS (As := As) (rest := rest) ⟨C.x, C.b, C.ml, C.ow, C.ts⟩ hM ⟨C.cb I hw rfl rfl hroom, C.ts _ hstt⟩ (C.pre hR hS) rfl hn hl.1 hst (lv_room hcat) hd ⟨hk0, hn0⟩) hS (fun q _ h => h) (fun q h => h) (fun u t H1 locs1 ht hvm hw hB hz1 hk1 hS1 => ?_)
  exact kk u hw H1 ls locs1 (ht ▸ hB.1) hS1 hl
theorem k_callSNV (pc q : Nat) (C : Cx E p s m args meth c own cc nL ret) {y : MethodName} {cc' : ByteArray} {maxL N ix : Nat} {ret' : Option FieldType} {f lo : Nat}  {Post : gV → Prop} (As rest : List Value) (hd : decode cc pc = .ok (.invokestatic ix, 3)) (hq : pc + 3 = q) (hM : CtV E T l y (gw y cc' maxL ret') { frames := f, cells := 0, slots := 0, locals := lo } As V Post) (I : MI y cc' maxL ret' N) (hw : Cond.methodLinkNest own ix y "PantographArm" ∈ nws) (hstt : Cond.static y ∈ GW) (hn : As.length = N) (hst : st = As.reverse ++ rest) (hroom : f + 1 ≤ R.frames ∧ 8 + (maxL + 11) + lo ≤ R.locals) (hcat : (rest.map fun v => v.category).sum ≤ 8) (hk0 : k ≤ R.cells) (hn0 : n ≤ R.slots)
    (kk : ∀ (V' : gV), Post V' → KW E T V' p l e R s m args below meth c nL k n Q q L rest) : KW E T V p l e R s m args below meth c nL k n Q pc L st := by
  subst hq
  intro H ls locs hR hS hl
  refine va_callv (va_runSN (As := As) (rest := rest) ⟨C.x, C.b, C.ml, C.ow, C.ts⟩ hM ⟨C.cbN I hw rfl rfl hroom, C.ts _ hstt, trivial⟩ (C.pre hR hS) rfl hn hl.1 hst (lv_room hcat) hd ⟨hk0, hn0⟩) hS (fun q _ h => h) (fun q h => h) (fun u t H1 locs1 ht hvm hw hB hz1 hk1 hS1 => ?_)
  exact kk u hw H1 ls locs1 (ht ▸ hB.1) hS1 hl
theorem k_iret (pc : Nat) (C : Cx E p s m args meth c own cc nL ret) {x : Int32} {Post : Int32 → gV → Prop} (hd : decode cc pc = .ok (.ireturn, 1)) (hr : ret = some .int)  (h : Post x V) : KW E T V p l e R s m args below meth c nL k n (MQ below (va_Qi Post (RepS E T) (gA E)) args s k n (gA E)) pc L [.int x] := by
  intro H ls locs hR hS hl
  exact W.iret C.x C.b (C.re.trans hr) (fun t ht hW => ⟨⟨x, V, rfl, h, C.out hS hR ht hW⟩, hS.F ht⟩) hS.2.2 hd C.lk
theorem k_zret (pc : Nat) (C : Cx E p s m args meth c own cc nL ret) {x : Int32} {Post : Int32 → gV → Prop} (hd : decode cc pc = .ok (.ireturn, 1)) (hr : ret = some .boolean) (hz : x = 0 ∨ x = 1) (h : Post x V) : KW E T V p l e R s m args below meth c nL k n (MQ below (va_Qi Post (RepS E T) (gA E)) args s k n (gA E)) pc L [.int x] := by
  intro H ls locs hR hS hl
  exact W.zret C.x C.b (C.re.trans hr) (by rcases hz with rfl | rfl <;> rfl) (fun t ht hW => ⟨⟨x, V, rfl, h, C.out hS hR ht hW⟩, hS.F ht⟩) hS.2.2 hd C.lk
theorem k_cret (pc : Nat) (C : Cx E p s m args meth c own cc nL ret) {x : Int32} {Post : Int32 → gV → Prop} (hd : decode cc pc = .ok (.ireturn, 1)) (hr : ret = some .char) (hz : narrow .char (.int x) = .int x) (h : Post x V) : KW E T V p l e R s m args below meth c nL k n (MQ below (va_Qi Post (RepS E T) (gA E)) args s k n (gA E)) pc L [.int x] := by
  intro H ls locs hR hS hl
  exact W.zret C.x C.b (C.re.trans hr) hz (fun t ht hW => ⟨⟨x, V, rfl, h, C.out hS hR ht hW⟩, hS.F ht⟩) hS.2.2 hd C.lk
theorem k_lret (pc : Nat) (C : Cx E p s m args meth c own cc nL ret) {x : Int64} {Post : Int64 → gV → Prop} (hd : decode cc pc = .ok (.lreturn, 1)) (hr : ret = some .long)  (h : Post x V) : KW E T V p l e R s m args below meth c nL k n (MQ below (va_Ql Post (RepS E T) (gA E)) args s k n (gA E)) pc L [.long x] := by
  intro H ls locs hR hS hl
  exact W.lret C.x C.b (C.re.trans hr) (fun t ht hW => ⟨⟨x, V, rfl, h, C.out hS hR ht hW⟩, hS.F ht⟩) hS.2.2 hd C.lk
theorem k_fret (pc : Nat) (C : Cx E p s m args meth c own cc nL ret) {x : UInt32} {Post : UInt32 → gV → Prop} (hd : decode cc pc = .ok (.freturn, 1)) (hr : ret = some .float)  (h : Post x V) : KW E T V p l e R s m args below meth c nL k n (MQ below (va_Qf Post (RepS E T) (gA E)) args s k n (gA E)) pc L [.float x] := by
  intro H ls locs hR hS hl
  exact W.fret C.x C.b (C.re.trans hr) (fun t ht hW => ⟨⟨x, V, rfl, h, C.out hS hR ht hW⟩, hS.F ht⟩) hS.2.2 hd C.lk
theorem k_aret (pc : Nat) (C : Cx E p s m args meth c own cc nL ret) {x : Option Nat} {rt : FieldType} {Post : Option Nat → gV → Prop} (hd : decode cc pc = .ok (.areturn, 1)) (hr : ret = some rt) (hrt : (∃ z, rt = .object z) ∨ ∃ z, rt = .array z) (h : Post x V) : KW E T V p l e R s m args below meth c nL k n (MQ below (va_Qq Post (RepS E T) (gA E)) args s k n (gA E)) pc L [va_rf x] := by
  intro H ls locs hR hS hl
  exact W.aret C.x C.b (C.re.trans hr) hrt (by cases x with | none => exact Or.inl rfl | some a => exact Or.inr ⟨a, rfl⟩) (fun t ht hW => ⟨⟨x, V, rfl, h, C.out hS hR ht hW⟩, hS.F ht⟩) hS.2.2 hd C.lk
theorem k_vret (pc : Nat) (C : Cx E p s m args meth c own cc nL ret)  {Post : gV → Prop} (hd : decode cc pc = .ok (.return_, 1)) (hr : ret = none)  (h : Post V) : KW E T V p l e R s m args below meth c nL k n (MQ below (va_Qv Post (RepS E T) (gA E)) args s k n (gA E)) pc L [] := by
  intro H ls locs hR hS hl
  exact W.vret C.x C.b (C.re.trans hr) (fun t ht hW => ⟨⟨V, rfl, h, C.out hS hR ht hW⟩, hS.F ht⟩) hS.2.2 hd C.lk
end CTS
end
section
theorem mi_X3_init : MI yX3_init cX3_init 2 none 0 := ⟨cd_X3_init, ini_X3, by decide +kernel, by decide +kernel, by decide +kernel⟩
theorem mi_X0_init : MI yX0_init cX0_init 2 none 0 := ⟨cd_X0_init, ini_X0, by decide +kernel, by decide +kernel, by decide +kernel⟩
theorem mi_X1_init : MI yX1_init cX1_init 1 none 0 := ⟨cd_X1_init, ini_X1, by decide +kernel, by decide +kernel, by decide +kernel⟩
theorem mi_X2_init : MI yX2_init cX2_init 1 none 0 := ⟨cd_X2_init, ini_X2, by decide +kernel, by decide +kernel, by decide +kernel⟩
theorem mi_X4_init : MI yX4_init cX4_init 1 none 0 := ⟨cd_X4_init, ini_X4, by decide +kernel, by decide +kernel, by decide +kernel⟩
theorem mi_X3_arm : MI yX3_arm cX3_arm 4 (some .int) 2 := ⟨cd_X3_arm, ini_X3, by decide +kernel, by decide +kernel, by decide +kernel⟩
theorem mi_X3_isWithin : MI yX3_isWithin cX3_isWithin 3 (some .boolean) 3 := ⟨cd_X3_isWithin, ini_X3, by decide +kernel, by decide +kernel, by decide +kernel⟩
theorem mi_X3_remember : MI yX3_remember cX3_remember 1 none 0 := ⟨cd_X3_remember, ini_X3, by decide +kernel, by decide +kernel, by decide +kernel⟩
theorem mi_X3_dropOldest : MI yX3_dropOldest cX3_dropOldest 3 none 0 := ⟨cd_X3_dropOldest, ini_X3, by decide +kernel, by decide +kernel, by decide +kernel⟩
theorem mi_X0_takeFrom : MI yX0_takeFrom cX0_takeFrom 5 none 1 := ⟨cd_X0_takeFrom, ini_X0, by decide +kernel, by decide +kernel, by decide +kernel⟩
theorem mi_X0_setting : MI yX0_setting cX0_setting 2 (some .int) 1 := ⟨cd_X0_setting, ini_X0, by decide +kernel, by decide +kernel, by decide +kernel⟩
theorem mi_X0_find : MI yX0_find cX0_find 2 (some (.object "PantographArm$Drawing")) 1 := ⟨cd_X0_find, ini_X0, by decide +kernel, by decide +kernel, by decide +kernel⟩
theorem mi_X1_takeFrom : MI yX1_takeFrom cX1_takeFrom 3 none 1 := ⟨cd_X1_takeFrom, ini_X1, by decide +kernel, by decide +kernel, by decide +kernel⟩
theorem mi_X1_begin : MI yX1_begin cX1_begin 6 none 3 := ⟨cd_X1_begin, ini_X1, by decide +kernel, by decide +kernel, by decide +kernel⟩
theorem mi_X1_x : MI yX1_x cX1_x 2 (some .long) 1 := ⟨cd_X1_x, ini_X1, by decide +kernel, by decide +kernel, by decide +kernel⟩
theorem mi_X1_has : MI yX1_has cX1_has 2 (some .boolean) 1 := ⟨cd_X1_has, ini_X1, by decide +kernel, by decide +kernel, by decide +kernel⟩
theorem mi_X1_y : MI yX1_y cX1_y 2 (some .long) 1 := ⟨cd_X1_y, ini_X1, by decide +kernel, by decide +kernel, by decide +kernel⟩
theorem mi_X1_line : MI yX1_line cX1_line 2 (some .int) 1 := ⟨cd_X1_line, ini_X1, by decide +kernel, by decide +kernel, by decide +kernel⟩
theorem mi_X1_add : MI yX1_add cX1_add 6 none 3 := ⟨cd_X1_add, ini_X1, by decide +kernel, by decide +kernel, by decide +kernel⟩
theorem mi_X4_arm : MI yX4_arm cX4_arm 4 (some .int) 2 := ⟨cd_X4_arm, ini_X4, by decide +kernel, by decide +kernel, by decide +kernel⟩
theorem mi_X4_in : MI yX4_in cX4_in 3 (some .boolean) 3 := ⟨cd_X4_in, ini_X4, by decide +kernel, by decide +kernel, by decide +kernel⟩
theorem mi_X4_keep : MI yX4_keep cX4_keep 2 none 0 := ⟨cd_X4_keep, ini_X4, by decide +kernel, by decide +kernel, by decide +kernel⟩
theorem mi_X4_bring : MI yX4_bring cX4_bring 5 none 4 := ⟨cd_X4_bring, ini_X4, by decide +kernel, by decide +kernel, by decide +kernel⟩
theorem mi_X4_of : MI yX4_of cX4_of 2 (some .int) 1 := ⟨cd_X4_of, ini_X4, by decide +kernel, by decide +kernel, by decide +kernel⟩
theorem mi_X3_pivot : MI yX3_pivot cX3_pivot 4 (some .int) 2 := ⟨cd_X3_pivot, ini_X3, by decide +kernel, by decide +kernel, by decide +kernel⟩
theorem mi_X4_pivot : MI yX4_pivot cX4_pivot 4 (some .int) 2 := ⟨cd_X4_pivot, ini_X4, by decide +kernel, by decide +kernel, by decide +kernel⟩
theorem mi_X3_set : MI yX3_set cX3_set 4 (some .int) 2 := ⟨cd_X3_set, ini_X3, by decide +kernel, by decide +kernel, by decide +kernel⟩
theorem mi_X0_changeSetting : MI yX0_changeSetting cX0_changeSetting 3 none 2 := ⟨cd_X0_changeSetting, ini_X0, by decide +kernel, by decide +kernel, by decide +kernel⟩
theorem mi_X4_set : MI yX4_set cX4_set 4 (some .int) 2 := ⟨cd_X4_set, ini_X4, by decide +kernel, by decide +kernel, by decide +kernel⟩
theorem mi_X4_isSetting : MI yX4_isSetting cX4_isSetting 2 (some .boolean) 2 := ⟨cd_X4_isSetting, ini_X4, by decide +kernel, by decide +kernel, by decide +kernel⟩
theorem mi_X3_count : MI yX3_count cX3_count 2 (some .int) 1 := ⟨cd_X3_count, ini_X3, by decide +kernel, by decide +kernel, by decide +kernel⟩
theorem mi_X0_isBlunt : MI yX0_isBlunt cX0_isBlunt 1 (some .boolean) 0 := ⟨cd_X0_isBlunt, ini_X0, by decide +kernel, by decide +kernel, by decide +kernel⟩
theorem mi_X0_wornWidth : MI yX0_wornWidth cX0_wornWidth 1 (some .int) 0 := ⟨cd_X0_wornWidth, ini_X0, by decide +kernel, by decide +kernel, by decide +kernel⟩
theorem mi_X3_quotient : MI yX3_quotient cX3_quotient 4 (some .long) 2 := ⟨cd_X3_quotient, ini_X3, by decide +kernel, by decide +kernel, by decide +kernel⟩
theorem mi_X4_count : MI yX4_count cX4_count 2 (some .int) 1 := ⟨cd_X4_count, ini_X4, by decide +kernel, by decide +kernel, by decide +kernel⟩
theorem mi_X4_isBlunt : MI yX4_isBlunt cX4_isBlunt 1 (some .boolean) 0 := ⟨cd_X4_isBlunt, ini_X4, by decide +kernel, by decide +kernel, by decide +kernel⟩
theorem mi_X3_sharpen : MI yX3_sharpen cX3_sharpen 2 (some .int) 0 := ⟨cd_X3_sharpen, ini_X3, by decide +kernel, by decide +kernel, by decide +kernel⟩
theorem mi_X4_sharpen : MI yX4_sharpen cX4_sharpen 2 (some .int) 0 := ⟨cd_X4_sharpen, ini_X4, by decide +kernel, by decide +kernel, by decide +kernel⟩
theorem mi_X3_draw : MI yX3_draw cX3_draw 1 (some .int) 0 := ⟨cd_X3_draw, ini_X3, by decide +kernel, by decide +kernel, by decide +kernel⟩
theorem mi_X0_spare : MI yX0_spare cX0_spare 1 (some (.object "PantographArm$Drawing")) 0 := ⟨cd_X0_spare, ini_X0, by decide +kernel, by decide +kernel, by decide +kernel⟩
theorem mi_X0_beginOriginal : MI yX0_beginOriginal cX0_beginOriginal 2 (some .int) 0 := ⟨cd_X0_beginOriginal, ini_X0, by decide +kernel, by decide +kernel, by decide +kernel⟩
theorem mi_X4_draw : MI yX4_draw cX4_draw 1 (some .int) 0 := ⟨cd_X4_draw, ini_X4, by decide +kernel, by decide +kernel, by decide +kernel⟩
theorem mi_X4_begins : MI yX4_begins cX4_begins 3 (some .int) 0 := ⟨cd_X4_begins, ini_X4, by decide +kernel, by decide +kernel, by decide +kernel⟩
theorem mi_X4_head : MI yX4_head cX4_head 2 (some .int) 2 := ⟨cd_X4_head, ini_X4, by decide +kernel, by decide +kernel, by decide +kernel⟩
theorem mi_X3_point : MI yX3_point cX3_point 6 (some .int) 4 := ⟨cd_X3_point, ini_X3, by decide +kernel, by decide +kernel, by decide +kernel⟩
theorem mi_X1_isCopy : MI yX1_isCopy cX1_isCopy 1 (some .boolean) 0 := ⟨cd_X1_isCopy, ini_X1, by decide +kernel, by decide +kernel, by decide +kernel⟩
theorem mi_X0_hasCopies : MI yX0_hasCopies cX0_hasCopies 4 (some .boolean) 1 := ⟨cd_X0_hasCopies, ini_X0, by decide +kernel, by decide +kernel, by decide +kernel⟩
theorem mi_X1_isFull : MI yX1_isFull cX1_isFull 1 (some .boolean) 0 := ⟨cd_X1_isFull, ini_X1, by decide +kernel, by decide +kernel, by decide +kernel⟩
theorem mi_X4_point : MI yX4_point cX4_point 5 (some .int) 4 := ⟨cd_X4_point, ini_X4, by decide +kernel, by decide +kernel, by decide +kernel⟩
theorem mi_X4_isDrawing : MI yX4_isDrawing cX4_isDrawing 2 (some .boolean) 1 := ⟨cd_X4_isDrawing, ini_X4, by decide +kernel, by decide +kernel, by decide +kernel⟩
theorem mi_X4_isCopied : MI yX4_isCopied cX4_isCopied 4 (some .boolean) 1 := ⟨cd_X4_isCopied, ini_X4, by decide +kernel, by decide +kernel, by decide +kernel⟩
theorem mi_X4_points : MI yX4_points cX4_points 2 (some .int) 1 := ⟨cd_X4_points, ini_X4, by decide +kernel, by decide +kernel, by decide +kernel⟩
theorem mi_X4_adds : MI yX4_adds cX4_adds 8 none 4 := ⟨cd_X4_adds, ini_X4, by decide +kernel, by decide +kernel, by decide +kernel⟩
theorem mi_X4_cellOf : MI yX4_cellOf cX4_cellOf 2 (some .int) 2 := ⟨cd_X4_cellOf, ini_X4, by decide +kernel, by decide +kernel, by decide +kernel⟩
theorem mi_X4_lengthTo : MI yX4_lengthTo cX4_lengthTo 9 (some .int) 2 := ⟨cd_X4_lengthTo, ini_X4, by decide +kernel, by decide +kernel, by decide +kernel⟩
theorem mi_X4_plus : MI yX4_plus cX4_plus 13 none 5 := ⟨cd_X4_plus, ini_X4, by decide +kernel, by decide +kernel, by decide +kernel⟩
theorem mi_X4_divisor : MI yX4_divisor cX4_divisor 10 (some .long) 2 := ⟨cd_X4_divisor, ini_X4, by decide +kernel, by decide +kernel, by decide +kernel⟩
theorem mi_X4_size : MI yX4_size cX4_size 2 (some .long) 1 := ⟨cd_X4_size, ini_X4, by decide +kernel, by decide +kernel, by decide +kernel⟩
theorem mi_X4_reduce : MI yX4_reduce cX4_reduce 7 none 2 := ⟨cd_X4_reduce, ini_X4, by decide +kernel, by decide +kernel, by decide +kernel⟩
theorem mi_X3_remove : MI yX3_remove cX3_remove 2 (some .int) 1 := ⟨cd_X3_remove, ini_X3, by decide +kernel, by decide +kernel, by decide +kernel⟩
theorem mi_X0_takeAway : MI yX0_takeAway cX0_takeAway 6 none 1 := ⟨cd_X0_takeAway, ini_X0, by decide +kernel, by decide +kernel, by decide +kernel⟩
theorem mi_X4_remove : MI yX4_remove cX4_remove 3 (some .int) 1 := ⟨cd_X4_remove, ini_X4, by decide +kernel, by decide +kernel, by decide +kernel⟩
theorem mi_X3_copy : MI yX3_copy cX3_copy 3 (some .int) 1 := ⟨cd_X3_copy, ini_X3, by decide +kernel, by decide +kernel, by decide +kernel⟩
theorem mi_X0_reasonAgainst : MI yX0_reasonAgainst cX0_reasonAgainst 4 (some .int) 2 := ⟨cd_X0_reasonAgainst, ini_X0, by decide +kernel, by decide +kernel, by decide +kernel⟩
theorem mi_X0_trace : MI yX0_trace cX0_trace 11 none 3 := ⟨cd_X0_trace, ini_X0, by decide +kernel, by decide +kernel, by decide +kernel⟩
theorem mi_X0_signX : MI yX0_signX cX0_signX 1 (some .int) 0 := ⟨cd_X0_signX, ini_X0, by decide +kernel, by decide +kernel, by decide +kernel⟩
theorem mi_X0_signY : MI yX0_signY cX0_signY 1 (some .int) 0 := ⟨cd_X0_signY, ini_X0, by decide +kernel, by decide +kernel, by decide +kernel⟩
theorem mi_X0_aim : MI yX0_aim cX0_aim 7 (some .long) 4 := ⟨cd_X0_aim, ini_X0, by decide +kernel, by decide +kernel, by decide +kernel⟩
theorem mi_X1_isJoined : MI yX1_isJoined cX1_isJoined 2 (some .boolean) 1 := ⟨cd_X1_isJoined, ini_X1, by decide +kernel, by decide +kernel, by decide +kernel⟩
theorem mi_X0_follow : MI yX0_follow cX0_follow 6 (some .long) 3 := ⟨cd_X0_follow, ini_X0, by decide +kernel, by decide +kernel, by decide +kernel⟩
theorem mi_X1_isTooFine : MI yX1_isTooFine cX1_isTooFine 2 (some .boolean) 0 := ⟨cd_X1_isTooFine, ini_X1, by decide +kernel, by decide +kernel, by decide +kernel⟩
theorem mi_X3_lowest : MI yX3_lowest cX3_lowest 9 (some .long) 3 := ⟨cd_X3_lowest, ini_X3, by decide +kernel, by decide +kernel, by decide +kernel⟩
theorem mi_X3_greatestDivisor : MI yX3_greatestDivisor cX3_greatestDivisor 11 (some .long) 2 := ⟨cd_X3_greatestDivisor, ini_X3, by decide +kernel, by decide +kernel, by decide +kernel⟩
theorem mi_X0_keepTraced : MI yX0_keepTraced cX0_keepTraced 3 (some .int) 0 := ⟨cd_X0_keepTraced, ini_X0, by decide +kernel, by decide +kernel, by decide +kernel⟩
theorem mi_X0_drawLine : MI yX0_drawLine cX0_drawLine 4 none 2 := ⟨cd_X0_drawLine, ini_X0, by decide +kernel, by decide +kernel, by decide +kernel⟩
theorem mi_X0_isOnBoard : MI yX0_isOnBoard cX0_isOnBoard 7 (some .boolean) 2 := ⟨cd_X0_isOnBoard, ini_X0, by decide +kernel, by decide +kernel, by decide +kernel⟩
theorem mi_X1_lineLength : MI yX1_lineLength cX1_lineLength 6 (some .int) 1 := ⟨cd_X1_lineLength, ini_X1, by decide +kernel, by decide +kernel, by decide +kernel⟩
theorem mi_X1_changeLine : MI yX1_changeLine cX1_changeLine 3 none 2 := ⟨cd_X1_changeLine, ini_X1, by decide +kernel, by decide +kernel, by decide +kernel⟩
theorem mi_X4_copy : MI yX4_copy cX4_copy 5 (some .int) 1 := ⟨cd_X4_copy, ini_X4, by decide +kernel, by decide +kernel, by decide +kernel⟩
theorem mi_X4_reason : MI yX4_reason cX4_reason 3 (some .int) 1 := ⟨cd_X4_reason, ini_X4, by decide +kernel, by decide +kernel, by decide +kernel⟩
theorem mi_X4_copies : MI yX4_copies cX4_copies 6 (some .boolean) 1 := ⟨cd_X4_copies, ini_X4, by decide +kernel, by decide +kernel, by decide +kernel⟩
theorem mi_X4_put : MI yX4_put cX4_put 2 none 1 := ⟨cd_X4_put, ini_X4, by decide +kernel, by decide +kernel, by decide +kernel⟩
theorem mi_X4_signOf : MI yX4_signOf cX4_signOf 2 (some .int) 1 := ⟨cd_X4_signOf, ini_X4, by decide +kernel, by decide +kernel, by decide +kernel⟩
theorem mi_X4_shift : MI yX4_shift cX4_shift 5 none 3 := ⟨cd_X4_shift, ini_X4, by decide +kernel, by decide +kernel, by decide +kernel⟩
theorem mi_X4_aim : MI yX4_aim cX4_aim 8 none 3 := ⟨cd_X4_aim, ini_X4, by decide +kernel, by decide +kernel, by decide +kernel⟩
theorem mi_X4_trace : MI yX4_trace cX4_trace 8 none 3 := ⟨cd_X4_trace, ini_X4, by decide +kernel, by decide +kernel, by decide +kernel⟩
theorem mi_X4_follow : MI yX4_follow cX4_follow 11 none 2 := ⟨cd_X4_follow, ini_X4, by decide +kernel, by decide +kernel, by decide +kernel⟩
theorem mi_X4_line : MI yX4_line cX4_line 6 none 2 := ⟨cd_X4_line, ini_X4, by decide +kernel, by decide +kernel, by decide +kernel⟩
theorem mi_X4_isOnBoard : MI yX4_isOnBoard cX4_isOnBoard 5 (some .boolean) 2 := ⟨cd_X4_isOnBoard, ini_X4, by decide +kernel, by decide +kernel, by decide +kernel⟩
theorem mi_X3_why : MI yX3_why cX3_why 3 (some .int) 1 := ⟨cd_X3_why, ini_X3, by decide +kernel, by decide +kernel, by decide +kernel⟩
theorem mi_X4_why : MI yX4_why cX4_why 2 (some .int) 1 := ⟨cd_X4_why, ini_X4, by decide +kernel, by decide +kernel, by decide +kernel⟩
theorem mi_X3_drawing : MI yX3_drawing cX3_drawing 4 (some .int) 2 := ⟨cd_X3_drawing, ini_X3, by decide +kernel, by decide +kernel, by decide +kernel⟩
theorem mi_X0_originalOf : MI yX0_originalOf cX0_originalOf 5 (some .int) 1 := ⟨cd_X0_originalOf, ini_X0, by decide +kernel, by decide +kernel, by decide +kernel⟩
theorem mi_X0_stepsOf : MI yX0_stepsOf cX0_stepsOf 5 (some .int) 1 := ⟨cd_X0_stepsOf, ini_X0, by decide +kernel, by decide +kernel, by decide +kernel⟩
theorem mi_X1_drawnLines : MI yX1_drawnLines cX1_drawnLines 3 (some .int) 0 := ⟨cd_X1_drawnLines, ini_X1, by decide +kernel, by decide +kernel, by decide +kernel⟩
theorem mi_X1_width : MI yX1_width cX1_width 2 (some .int) 1 := ⟨cd_X1_width, ini_X1, by decide +kernel, by decide +kernel, by decide +kernel⟩
theorem mi_X1_drawnLength : MI yX1_drawnLength cX1_drawnLength 3 (some .int) 0 := ⟨cd_X1_drawnLength, ini_X1, by decide +kernel, by decide +kernel, by decide +kernel⟩
theorem mi_X1_greatestWidth : MI yX1_greatestWidth cX1_greatestWidth 3 (some .int) 0 := ⟨cd_X1_greatestWidth, ini_X1, by decide +kernel, by decide +kernel, by decide +kernel⟩
theorem mi_X0_pointsOffBoard : MI yX0_pointsOffBoard cX0_pointsOffBoard 4 (some .int) 1 := ⟨cd_X0_pointsOffBoard, ini_X0, by decide +kernel, by decide +kernel, by decide +kernel⟩
theorem mi_X1_ratioAsFloat : MI yX1_ratioAsFloat cX1_ratioAsFloat 5 (some .float) 0 := ⟨cd_X1_ratioAsFloat, ini_X1, by decide +kernel, by decide +kernel, by decide +kernel⟩
theorem mi_X3_floatBits : MI yX3_floatBits cX3_floatBits 4 (some .int) 1 := ⟨cd_X3_floatBits, ini_X3, by decide +kernel, by decide +kernel, by decide +kernel⟩
theorem mi_X4_drawing : MI yX4_drawing cX4_drawing 3 (some .int) 2 := ⟨cd_X4_drawing, ini_X4, by decide +kernel, by decide +kernel, by decide +kernel⟩
theorem mi_X4_drawingOf : MI yX4_drawingOf cX4_drawingOf 3 (some .int) 2 := ⟨cd_X4_drawingOf, ini_X4, by decide +kernel, by decide +kernel, by decide +kernel⟩
theorem mi_X4_root : MI yX4_root cX4_root 3 (some .int) 1 := ⟨cd_X4_root, ini_X4, by decide +kernel, by decide +kernel, by decide +kernel⟩
theorem mi_X4_steps : MI yX4_steps cX4_steps 4 (some .int) 1 := ⟨cd_X4_steps, ini_X4, by decide +kernel, by decide +kernel, by decide +kernel⟩
theorem mi_X4_offBoard : MI yX4_offBoard cX4_offBoard 4 (some .int) 1 := ⟨cd_X4_offBoard, ini_X4, by decide +kernel, by decide +kernel, by decide +kernel⟩
theorem mi_X4_ratioOf : MI yX4_ratioOf cX4_ratioOf 2 (some .float) 1 := ⟨cd_X4_ratioOf, ini_X4, by decide +kernel, by decide +kernel, by decide +kernel⟩
theorem mi_Jxf58ca_floatToIntBits_5c35a : MI yJxf58ca_floatToIntBits_5c35a cJxf58ca_floatToIntBits_5c35a 1 (some .int) 1 := ⟨cd_Jxf58ca_floatToIntBits_5c35a, ini_Jxf58ca, by decide +kernel, by decide +kernel, by decide +kernel⟩
theorem mi_Jxf58ca_isNaN_12338 : MI yJxf58ca_isNaN_12338 cJxf58ca_isNaN_12338 1 (some .boolean) 1 := ⟨cd_Jxf58ca_isNaN_12338, ini_Jxf58ca, by decide +kernel, by decide +kernel, by decide +kernel⟩
theorem mi_X4_lines : MI yX4_lines cX4_lines 8 (some .int) 2 := ⟨cd_X4_lines, ini_X4, by decide +kernel, by decide +kernel, by decide +kernel⟩
theorem mi_X3_ratio : MI yX3_ratio cX3_ratio 4 (some .int) 2 := ⟨cd_X3_ratio, ini_X3, by decide +kernel, by decide +kernel, by decide +kernel⟩
theorem mi_X4_ratio : MI yX4_ratio cX4_ratio 3 (some .int) 2 := ⟨cd_X4_ratio, ini_X4, by decide +kernel, by decide +kernel, by decide +kernel⟩
theorem mi_X3_pointInfo : MI yX3_pointInfo cX3_pointInfo 5 (some .long) 3 := ⟨cd_X3_pointInfo, ini_X3, by decide +kernel, by decide +kernel, by decide +kernel⟩
theorem mi_X4_pointInfo : MI yX4_pointInfo cX4_pointInfo 4 (some .long) 3 := ⟨cd_X4_pointInfo, ini_X4, by decide +kernel, by decide +kernel, by decide +kernel⟩
theorem mi_X4_isPoint : MI yX4_isPoint cX4_isPoint 3 (some .boolean) 2 := ⟨cd_X4_isPoint, ini_X4, by decide +kernel, by decide +kernel, by decide +kernel⟩
theorem mi_X3_atOnce : MI yX3_atOnce cX3_atOnce 6 (some .long) 3 := ⟨cd_X3_atOnce, ini_X3, by decide +kernel, by decide +kernel, by decide +kernel⟩
theorem mi_X1_xAtOnce : MI yX1_xAtOnce cX1_xAtOnce 3 (some .long) 1 := ⟨cd_X1_xAtOnce, ini_X1, by decide +kernel, by decide +kernel, by decide +kernel⟩
theorem mi_X1_yAtOnce : MI yX1_yAtOnce cX1_yAtOnce 3 (some .long) 1 := ⟨cd_X1_yAtOnce, ini_X1, by decide +kernel, by decide +kernel, by decide +kernel⟩
theorem mi_X4_atOnce : MI yX4_atOnce cX4_atOnce 10 (some .long) 3 := ⟨cd_X4_atOnce, ini_X4, by decide +kernel, by decide +kernel, by decide +kernel⟩
theorem mi_X3_alike : MI yX3_alike cX3_alike 7 (some .int) 2 := ⟨cd_X3_alike, ini_X3, by decide +kernel, by decide +kernel, by decide +kernel⟩
theorem mi_X4_alike : MI yX4_alike cX4_alike 7 (some .int) 2 := ⟨cd_X4_alike, ini_X4, by decide +kernel, by decide +kernel, by decide +kernel⟩
theorem mi_X3_armFor : MI yX3_armFor cX3_armFor 13 (some .int) 2 := ⟨cd_X3_armFor, ini_X3, by decide +kernel, by decide +kernel, by decide +kernel⟩
theorem mi_X4_armFor : MI yX4_armFor cX4_armFor 5 (some .int) 2 := ⟨cd_X4_armFor, ini_X4, by decide +kernel, by decide +kernel, by decide +kernel⟩
theorem mi_X3_undo : MI yX3_undo cX3_undo 3 (some .int) 0 := ⟨cd_X3_undo, ini_X3, by decide +kernel, by decide +kernel, by decide +kernel⟩
theorem mi_X4_undo : MI yX4_undo cX4_undo 1 (some .int) 0 := ⟨cd_X4_undo, ini_X4, by decide +kernel, by decide +kernel, by decide +kernel⟩
theorem mi_X3_type : MI yX3_type cX3_type 2 (some .int) 1 := ⟨cd_X3_type, ini_X3, by decide +kernel, by decide +kernel, by decide +kernel⟩
theorem mi_X2_append : MI yX2_append cX2_append 2 (some .boolean) 1 := ⟨cd_X2_append, ini_X2, by decide +kernel, by decide +kernel, by decide +kernel⟩
theorem mi_X4_type : MI yX4_type cX4_type 2 (some .int) 1 := ⟨cd_X4_type, ini_X4, by decide +kernel, by decide +kernel, by decide +kernel⟩
theorem mi_X3_clearText : MI yX3_clearText cX3_clearText 2 (some .int) 0 := ⟨cd_X3_clearText, ini_X3, by decide +kernel, by decide +kernel, by decide +kernel⟩
theorem mi_X4_clearText : MI yX4_clearText cX4_clearText 2 (some .int) 0 := ⟨cd_X4_clearText, ini_X4, by decide +kernel, by decide +kernel, by decide +kernel⟩
theorem mi_X3_fault : MI yX3_fault cX3_fault 2 (some .int) 1 := ⟨cd_X3_fault, ini_X3, by decide +kernel, by decide +kernel, by decide +kernel⟩
theorem mi_X2_parse : MI yX2_parse cX2_parse 4 (some .int) 0 := ⟨cd_X2_parse, ini_X2, by decide +kernel, by decide +kernel, by decide +kernel⟩
theorem mi_X2_parsePoint : MI yX2_parsePoint cX2_parsePoint 4 none 1 := ⟨cd_X2_parsePoint, ini_X2, by decide +kernel, by decide +kernel, by decide +kernel⟩
theorem mi_X2_here : MI yX2_here cX2_here 1 (some .char) 0 := ⟨cd_X2_here, ini_X2, by decide +kernel, by decide +kernel, by decide +kernel⟩
theorem mi_X2_isDigit : MI yX2_isDigit cX2_isDigit 1 (some .boolean) 1 := ⟨cd_X2_isDigit, ini_X2, by decide +kernel, by decide +kernel, by decide +kernel⟩
theorem mi_X2_fail : MI yX2_fail cX2_fail 3 none 2 := ⟨cd_X2_fail, ini_X2, by decide +kernel, by decide +kernel, by decide +kernel⟩
theorem mi_X2_parseNumber : MI yX2_parseNumber cX2_parseNumber 4 (some .int) 0 := ⟨cd_X2_parseNumber, ini_X2, by decide +kernel, by decide +kernel, by decide +kernel⟩
theorem mi_X2_failHere : MI yX2_failHere cX2_failHere 1 none 0 := ⟨cd_X2_failHere, ini_X2, by decide +kernel, by decide +kernel, by decide +kernel⟩
theorem mi_X2_expect : MI yX2_expect cX2_expect 2 none 1 := ⟨cd_X2_expect, ini_X2, by decide +kernel, by decide +kernel, by decide +kernel⟩
theorem mi_X2_accept : MI yX2_accept cX2_accept 2 (some .boolean) 1 := ⟨cd_X2_accept, ini_X2, by decide +kernel, by decide +kernel, by decide +kernel⟩
theorem mi_X4_fault : MI yX4_fault cX4_fault 2 (some .int) 1 := ⟨cd_X4_fault, ini_X4, by decide +kernel, by decide +kernel, by decide +kernel⟩
theorem mi_X4_readText : MI yX4_readText cX4_readText 6 (some .int) 0 := ⟨cd_X4_readText, ini_X4, by decide +kernel, by decide +kernel, by decide +kernel⟩
theorem mi_X4_readPoint : MI yX4_readPoint cX4_readPoint 4 (some .boolean) 2 := ⟨cd_X4_readPoint, ini_X4, by decide +kernel, by decide +kernel, by decide +kernel⟩
theorem mi_X4_here : MI yX4_here cX4_here 1 (some .int) 0 := ⟨cd_X4_here, ini_X4, by decide +kernel, by decide +kernel, by decide +kernel⟩
theorem mi_X4_readNumber : MI yX4_readNumber cX4_readNumber 2 (some .boolean) 0 := ⟨cd_X4_readNumber, ini_X4, by decide +kernel, by decide +kernel, by decide +kernel⟩
theorem mi_X4_isFault : MI yX4_isFault cX4_isFault 1 (some .boolean) 0 := ⟨cd_X4_isFault, ini_X4, by decide +kernel, by decide +kernel, by decide +kernel⟩
theorem mi_X3_read : MI yX3_read cX3_read 3 (some .int) 0 := ⟨cd_X3_read, ini_X3, by decide +kernel, by decide +kernel, by decide +kernel⟩
theorem mi_X2_addPointsTo : MI yX2_addPointsTo cX2_addPointsTo 3 none 1 := ⟨cd_X2_addPointsTo, ini_X2, by decide +kernel, by decide +kernel, by decide +kernel⟩
theorem mi_X4_read : MI yX4_read cX4_read 4 (some .int) 0 := ⟨cd_X4_read, ini_X4, by decide +kernel, by decide +kernel, by decide +kernel⟩
end
section
/-! the shapes of our objects: kinds and final references, by the order in which they are made -/
def IsDrw (T : gT) (a : Nat) : Prop := tO T a 1 ∧ tF T a 8 (a + 1) ∧ tA T (a + 1) 1 20 ∧ tF T a 9 (a + 2) ∧ tA T (a + 2) 1 20 ∧ tF T a 10 (a + 3) ∧ tA T (a + 3) 0 20
theorem IsDrw.o {T : gT} {a : Nat} (h : IsDrw T a) : tO T a 1 := h.1
theorem IsDrw.f8 {T : gT} {a : Nat} (h : IsDrw T a) : tF T a 8 (a + 1) := h.2.1
theorem IsDrw.a8 {T : gT} {a : Nat} (h : IsDrw T a) : tA T (a + 1) 1 20 := h.2.2.1
theorem IsDrw.f9 {T : gT} {a : Nat} (h : IsDrw T a) : tF T a 9 (a + 2) := h.2.2.2.1
theorem IsDrw.a9 {T : gT} {a : Nat} (h : IsDrw T a) : tA T (a + 2) 1 20 := h.2.2.2.2.1
theorem IsDrw.f10 {T : gT} {a : Nat} (h : IsDrw T a) : tF T a 10 (a + 3) := h.2.2.2.2.2.1
theorem IsDrw.a10 {T : gT} {a : Nat} (h : IsDrw T a) : tA T (a + 3) 0 20 := h.2.2.2.2.2.2
def IsDsk (T : gT) (a : Nat) : Prop := tO T a 0 ∧ tF T a 4 (a + 1) ∧ tA T (a + 1) 0 5 ∧ tF T a 10 (a + 2) ∧ tA T (a + 2) 2 6 ∧ ∀ j, j < 6 → IsDrw T (a + 3 + 4 * j)
theorem IsDsk.o {T : gT} {a : Nat} (h : IsDsk T a) : tO T a 0 := h.1
theorem IsDsk.f4 {T : gT} {a : Nat} (h : IsDsk T a) : tF T a 4 (a + 1) := h.2.1
theorem IsDsk.a4 {T : gT} {a : Nat} (h : IsDsk T a) : tA T (a + 1) 0 5 := h.2.2.1
theorem IsDsk.f10 {T : gT} {a : Nat} (h : IsDsk T a) : tF T a 10 (a + 2) := h.2.2.2.1
theorem IsDsk.a10 {T : gT} {a : Nat} (h : IsDsk T a) : tA T (a + 2) 2 6 := h.2.2.2.2.1
theorem IsDsk.d {T : gT} {a : Nat} (h : IsDsk T a) : ∀ j, j < 6 → IsDrw T (a + 3 + 4 * j) := h.2.2.2.2.2
def IsTxt (T : gT) (a : Nat) : Prop := tO T a 2 ∧ tF T a 0 (a + 1) ∧ tA T (a + 1) 4 100 ∧ tF T a 5 (a + 2) ∧ tA T (a + 2) 0 20 ∧ tF T a 6 (a + 3) ∧ tA T (a + 3) 0 20 ∧ tF T a 7 (a + 4) ∧ tA T (a + 4) 5 20
theorem IsTxt.o {T : gT} {a : Nat} (h : IsTxt T a) : tO T a 2 := h.1
theorem IsTxt.f0 {T : gT} {a : Nat} (h : IsTxt T a) : tF T a 0 (a + 1) := h.2.1
theorem IsTxt.a0 {T : gT} {a : Nat} (h : IsTxt T a) : tA T (a + 1) 4 100 := h.2.2.1
theorem IsTxt.f5 {T : gT} {a : Nat} (h : IsTxt T a) : tF T a 5 (a + 2) := h.2.2.2.1
theorem IsTxt.a5 {T : gT} {a : Nat} (h : IsTxt T a) : tA T (a + 2) 0 20 := h.2.2.2.2.1
theorem IsTxt.f6 {T : gT} {a : Nat} (h : IsTxt T a) : tF T a 6 (a + 3) := h.2.2.2.2.2.1
theorem IsTxt.a6 {T : gT} {a : Nat} (h : IsTxt T a) : tA T (a + 3) 0 20 := h.2.2.2.2.2.2.1
theorem IsTxt.f7 {T : gT} {a : Nat} (h : IsTxt T a) : tF T a 7 (a + 4) := h.2.2.2.2.2.2.2.1
theorem IsTxt.a7 {T : gT} {a : Nat} (h : IsTxt T a) : tA T (a + 4) 5 20 := h.2.2.2.2.2.2.2.2
def IsArm (T : gT) (a : Nat) : Prop := tO T a 3 ∧ tF T a 1 (a + 28) ∧ tA T (a + 28) 3 4 ∧ tF T a 3 (a + 29) ∧ IsTxt T (a + 29)
theorem IsArm.o {T : gT} {a : Nat} (h : IsArm T a) : tO T a 3 := h.1
theorem IsArm.f1 {T : gT} {a : Nat} (h : IsArm T a) : tF T a 1 (a + 28) := h.2.1
theorem IsArm.a1 {T : gT} {a : Nat} (h : IsArm T a) : tA T (a + 28) 3 4 := h.2.2.1
theorem IsArm.f3 {T : gT} {a : Nat} (h : IsArm T a) : tF T a 3 (a + 29) := h.2.2.2.1
theorem IsArm.t {T : gT} {a : Nat} (h : IsArm T a) : IsTxt T (a + 29) := h.2.2.2.2
def IsMdl (T : gT) (a : Nat) : Prop := tO T a 4 ∧ tF T a 0 (a + 1) ∧ tA T (a + 1) 1 915 ∧ tF T a 1 (a + 2) ∧ tA T (a + 2) 1 915 ∧ tF T a 2 (a + 3) ∧ tA T (a + 3) 1 3660 ∧ tF T a 4 (a + 4) ∧ tA T (a + 4) 0 100 ∧ tF T a 11 (a + 5) ∧ tA T (a + 5) 0 60
theorem IsMdl.o {T : gT} {a : Nat} (h : IsMdl T a) : tO T a 4 := h.1
theorem IsMdl.f0 {T : gT} {a : Nat} (h : IsMdl T a) : tF T a 0 (a + 1) := h.2.1
theorem IsMdl.a0 {T : gT} {a : Nat} (h : IsMdl T a) : tA T (a + 1) 1 915 := h.2.2.1
theorem IsMdl.f1 {T : gT} {a : Nat} (h : IsMdl T a) : tF T a 1 (a + 2) := h.2.2.2.1
theorem IsMdl.a1 {T : gT} {a : Nat} (h : IsMdl T a) : tA T (a + 2) 1 915 := h.2.2.2.2.1
theorem IsMdl.f2 {T : gT} {a : Nat} (h : IsMdl T a) : tF T a 2 (a + 3) := h.2.2.2.2.2.1
theorem IsMdl.a2 {T : gT} {a : Nat} (h : IsMdl T a) : tA T (a + 3) 1 3660 := h.2.2.2.2.2.2.1
theorem IsMdl.f4 {T : gT} {a : Nat} (h : IsMdl T a) : tF T a 4 (a + 4) := h.2.2.2.2.2.2.2.1
theorem IsMdl.a4 {T : gT} {a : Nat} (h : IsMdl T a) : tA T (a + 4) 0 100 := h.2.2.2.2.2.2.2.2.1
theorem IsMdl.f11 {T : gT} {a : Nat} (h : IsMdl T a) : tF T a 11 (a + 5) := h.2.2.2.2.2.2.2.2.2.1
theorem IsMdl.a11 {T : gT} {a : Nat} (h : IsMdl T a) : tA T (a + 5) 0 60 := h.2.2.2.2.2.2.2.2.2.2
theorem ps_0_0 (T : gT) (V : gV) (a : Nat) (x : Int32) : flds T (wI V a 0 x) a 0 = (flds T V a 0).set 0 (.int x) := by simp [flds, wI, upd, vp_updL, va_up]
theorem ps_0_1 (T : gT) (V : gV) (a : Nat) (x : Int32) : flds T (wI V a 1 x) a 0 = (flds T V a 0).set 1 (.int x) := by simp [flds, wI, upd, vp_updL, va_up]
theorem ps_0_2 (T : gT) (V : gV) (a : Nat) (x : Int32) : flds T (wI V a 2 x) a 0 = (flds T V a 0).set 2 (.int x) := by simp [flds, wI, upd, vp_updL, va_up]
theorem ps_0_3 (T : gT) (V : gV) (a : Nat) (x : Int32) : flds T (wI V a 3 x) a 0 = (flds T V a 0).set 3 (.int x) := by simp [flds, wI, upd, vp_updL, va_up]
theorem ps_0_5 (T : gT) (V : gV) (a : Nat) (x : Int32) : flds T (wI V a 5 x) a 0 = (flds T V a 0).set 5 (.int x) := by simp [flds, wI, upd, vp_updL, va_up]
theorem ps_0_6 (T : gT) (V : gV) (a : Nat) (x : Int32) : flds T (wI V a 6 x) a 0 = (flds T V a 0).set 6 (.int x) := by simp [flds, wI, upd, vp_updL, va_up]
theorem ps_0_7 (T : gT) (V : gV) (a : Nat) (x : Int32) : flds T (wI V a 7 x) a 0 = (flds T V a 0).set 7 (.int x) := by simp [flds, wI, upd, vp_updL, va_up]
theorem ps_0_8 (T : gT) (V : gV) (a : Nat) (x : Int32) : flds T (wI V a 8 x) a 0 = (flds T V a 0).set 8 (.int x) := by simp [flds, wI, upd, vp_updL, va_up]
theorem ps_0_9 (T : gT) (V : gV) (a : Nat) (x : Int32) : flds T (wI V a 9 x) a 0 = (flds T V a 0).set 9 (.int x) := by simp [flds, wI, upd, vp_updL, va_up]
theorem ps_0_11 (T : gT) (V : gV) (a : Nat) (x : Int32) : flds T (wI V a 11 x) a 0 = (flds T V a 0).set 11 (.int x) := by simp [flds, wI, upd, vp_updL, va_up]
theorem ps_1_0 (T : gT) (V : gV) (a : Nat) (x : Int32) : flds T (wI V a 0 x) a 1 = (flds T V a 1).set 0 (.int x) := by simp [flds, wI, upd, vp_updL, va_up]
theorem ps_1_1 (T : gT) (V : gV) (a : Nat) (x : Int64) : flds T (wL V a 1 x) a 1 = (flds T V a 1).set 1 (.long x) := by simp [flds, wL, upd, vp_updL, va_up]
theorem ps_1_2 (T : gT) (V : gV) (a : Nat) (x : Int64) : flds T (wL V a 2 x) a 1 = (flds T V a 1).set 2 (.long x) := by simp [flds, wL, upd, vp_updL, va_up]
theorem ps_1_3 (T : gT) (V : gV) (a : Nat) (x : Int32) : flds T (wI V a 3 x) a 1 = (flds T V a 1).set 3 (.int x) := by simp [flds, wI, upd, vp_updL, va_up]
theorem ps_1_4 (T : gT) (V : gV) (a : Nat) (x : Int32) : flds T (wI V a 4 x) a 1 = (flds T V a 1).set 4 (.int x) := by simp [flds, wI, upd, vp_updL, va_up]
theorem ps_1_5 (T : gT) (V : gV) (a : Nat) (x : Int64) : flds T (wL V a 5 x) a 1 = (flds T V a 1).set 5 (.long x) := by simp [flds, wL, upd, vp_updL, va_up]
theorem ps_1_6 (T : gT) (V : gV) (a : Nat) (x : Int64) : flds T (wL V a 6 x) a 1 = (flds T V a 1).set 6 (.long x) := by simp [flds, wL, upd, vp_updL, va_up]
theorem ps_1_7 (T : gT) (V : gV) (a : Nat) (x : Int32) : flds T (wI V a 7 x) a 1 = (flds T V a 1).set 7 (.int x) := by simp [flds, wI, upd, vp_updL, va_up]
theorem ps_2_1 (T : gT) (V : gV) (a : Nat) (x : Int32) : flds T (wI V a 1 x) a 2 = (flds T V a 2).set 1 (.int x) := by simp [flds, wI, upd, vp_updL, va_up]
theorem ps_2_2 (T : gT) (V : gV) (a : Nat) (x : Int32) : flds T (wI V a 2 x) a 2 = (flds T V a 2).set 2 (.int x) := by simp [flds, wI, upd, vp_updL, va_up]
theorem ps_2_3 (T : gT) (V : gV) (a : Nat) (x : Int32) : flds T (wI V a 3 x) a 2 = (flds T V a 2).set 3 (.int x) := by simp [flds, wI, upd, vp_updL, va_up]
theorem ps_2_4 (T : gT) (V : gV) (a : Nat) (x : Int32) : flds T (wI V a 4 x) a 2 = (flds T V a 2).set 4 (.int x) := by simp [flds, wI, upd, vp_updL, va_up]
theorem ps_2_8 (T : gT) (V : gV) (a : Nat) (x : Int32) : flds T (wI V a 8 x) a 2 = (flds T V a 2).set 8 (.int x) := by simp [flds, wI, upd, vp_updL, va_up]
theorem ps_3_0 (T : gT) (V : gV) (a : Nat) (x : Option Nat) : flds T (wR V a 0 x) a 3 = (flds T V a 3).set 0 (va_rf x) := by simp [flds, wR, upd, vp_updL, va_up]
theorem ps_3_2 (T : gT) (V : gV) (a : Nat) (x : Int32) : flds T (wI V a 2 x) a 3 = (flds T V a 3).set 2 (.int x) := by simp [flds, wI, upd, vp_updL, va_up]
theorem ps_4_3 (T : gT) (V : gV) (a : Nat) (x : Int32) : flds T (wI V a 3 x) a 4 = (flds T V a 4).set 3 (.int x) := by simp [flds, wI, upd, vp_updL, va_up]
theorem ps_4_5 (T : gT) (V : gV) (a : Nat) (x : Int32) : flds T (wI V a 5 x) a 4 = (flds T V a 4).set 5 (.int x) := by simp [flds, wI, upd, vp_updL, va_up]
theorem ps_4_6 (T : gT) (V : gV) (a : Nat) (x : Int64) : flds T (wL V a 6 x) a 4 = (flds T V a 4).set 6 (.long x) := by simp [flds, wL, upd, vp_updL, va_up]
theorem ps_4_7 (T : gT) (V : gV) (a : Nat) (x : Int64) : flds T (wL V a 7 x) a 4 = (flds T V a 4).set 7 (.long x) := by simp [flds, wL, upd, vp_updL, va_up]
theorem ps_4_8 (T : gT) (V : gV) (a : Nat) (x : Int32) : flds T (wI V a 8 x) a 4 = (flds T V a 4).set 8 (.int x) := by simp [flds, wI, upd, vp_updL, va_up]
theorem ps_4_9 (T : gT) (V : gV) (a : Nat) (x : Int32) : flds T (wI V a 9 x) a 4 = (flds T V a 4).set 9 (.int x) := by simp [flds, wI, upd, vp_updL, va_up]
theorem ps_4_10 (T : gT) (V : gV) (a : Nat) (x : Int32) : flds T (wI V a 10 x) a 4 = (flds T V a 4).set 10 (.int x) := by simp [flds, wI, upd, vp_updL, va_up]
/-- a truth as the machine has it -/
def bi (q : Prop) [Decidable q] : Int32 := if q then 1 else 0
theorem bi_t {q : Prop} [Decidable q] (h : q) : bi q = 1 := if_pos h
theorem bi_f {q : Prop} [Decidable q] (h : ¬ q) : bi q = 0 := if_neg h
theorem bi_01 {q : Prop} [Decidable q] : bi q = 0 ∨ bi q = 1 := by
  by_cases h : q
  · exact Or.inr (if_pos h)
  · exact Or.inl (if_neg h)
theorem bi_0 {q : Prop} [Decidable q] : bi q = 0 ↔ ¬ q := by
  by_cases h : q
  · simp [bi, h]
  · simp [bi, h]
theorem bi_congr {q r : Prop} [Decidable q] [Decidable r] (h : q ↔ r) : bi q = bi r := by
  by_cases hq : q
  · rw [bi_t hq, bi_t (h.mp hq)]
  · rw [bi_f hq, bi_f (fun x => hq (h.mpr x))]
theorem lg_ge {x y : Int64} : 0 ≤ lg_cmp x y ↔ y ≤ x := by
  unfold lg_cmp
  have e1 := @Int64.lt_iff_toInt_lt y x
  have e2 := @Int64.le_iff_toInt_le y x
  by_cases h : x > y
  · rw [if_pos h]
    have h' := e1.mp h
    exact ⟨fun _ => e2.mpr (by omega), fun _ => by decide⟩
  · rw [if_neg h]
    have h' : ¬ y.toInt < x.toInt := fun z => h (e1.mpr z)
    by_cases h2 : x = y
    · rw [if_pos h2]
      subst h2
      exact ⟨fun _ => e2.mpr (by omega), fun _ => by decide⟩
    · rw [if_neg h2]
      have h3 : x.toInt ≠ y.toInt := fun z => h2 (Int64.toInt_inj.mp z)
      exact ⟨fun z => absurd z (by decide), fun z => absurd (e2.mp z) (by omega)⟩
theorem lg_le {x y : Int64} : lg_cmp x y ≤ 0 ↔ x ≤ y := by
  unfold lg_cmp
  have e1 := @Int64.lt_iff_toInt_lt y x
  have e2 := @Int64.le_iff_toInt_le x y
  by_cases h : x > y
  · rw [if_pos h]
    have h' := e1.mp h
    exact ⟨fun z => absurd z (by decide), fun z => absurd (e2.mp z) (by omega)⟩
  · rw [if_neg h]
    have h' : ¬ y.toInt < x.toInt := fun z => h (e1.mpr z)
    by_cases h2 : x = y
    · rw [if_pos h2]
      subst h2
      exact ⟨fun _ => e2.mpr (by omega), fun _ => by decide⟩
    · rw [if_neg h2]
      exact ⟨fun _ => e2.mpr (by omega), fun _ => by decide⟩
theorem lg_eq {x y : Int64} : lg_cmp x y = 0 ↔ x = y := by
  unfold lg_cmp
  by_cases h : x > y
  · rw [if_pos h]
    exact ⟨fun z => absurd z (by decide), fun z => by subst z; exact absurd (Int64.lt_iff_toInt_lt.mp h) (by omega)⟩
  · rw [if_neg h]
    by_cases h2 : x = y
    · rw [if_pos h2]; exact ⟨fun _ => h2, fun _ => rfl⟩
    · rw [if_neg h2]; exact ⟨fun z => absurd z (by decide), fun z => absurd z h2⟩
theorem i32_not_le {a b : Int32} : ¬ a ≤ b ↔ b < a := by
  rw [Int32.le_iff_toInt_le, Int32.lt_iff_toInt_lt]; omega
theorem i32_not_lt {a b : Int32} : ¬ a < b ↔ b ≤ a := by
  rw [Int32.le_iff_toInt_le, Int32.lt_iff_toInt_lt]; omega
theorem i64_not_le {a b : Int64} : ¬ a ≤ b ↔ b < a := by
  rw [Int64.le_iff_toInt_le, Int64.lt_iff_toInt_lt]; omega
theorem i64_not_lt {a b : Int64} : ¬ a < b ↔ b ≤ a := by
  rw [Int64.le_iff_toInt_le, Int64.lt_iff_toInt_lt]; omega
theorem lg_lt {x y : Int64} : lg_cmp x y < 0 ↔ x < y := by
  rw [← i32_not_le, lg_ge, i64_not_le]
theorem lg_gt {x y : Int64} : 0 < lg_cmp x y ↔ y < x := by
  rw [← i32_not_le, lg_le, i64_not_le]
theorem vi_of {i : Int32} {N : Nat} (hN : N < 2 ^ 31) (h0 : ¬ i < 0) (h1 : ¬ Int32.ofNat N ≤ i) : vp_in i N := by
  rw [vp_in_iff]
  have e : (Int32.ofNat N).toInt = (N : Int) := nI_toInt hN
  rw [Int32.lt_iff_toInt_lt] at h0
  rw [Int32.le_iff_toInt_le, e] at h1
  have e0 : (0 : Int32).toInt = 0 := by decide
  omega
section KWB
variable {E : gE} {T : gT} {V : gV} {p : Program} {l : Launch} {e : Env} {R : Room} {s : State} {m : MethodId} {args : Array Value} {below : List Frame} {meth : Method} {c : Code} {own : String} {cc : ByteArray} {nL : Nat} {ret : Option FieldType} {k n : Nat} {Q : State → Prop} {L : List (Nat × Value)} {st : List Value}
theorem k_lcmp_eq (pc q t q2 : Nat) (C : Cx E p s m args meth c own cc nL ret) {x y : Int64} {off : Int} (hd : decode cc pc = .ok (.lcmp, 1)) (hq : pc + 1 = q) (hd2 : decode cc q = .ok (.ifCond .eq off, 3)) (ht : (q : Int) + off = (t : Int)) (hq2 : q + 3 = q2) (kt : x = y → KW E T V p l e R s m args below meth c nL k n Q t L st) (kf : ¬ x = y → KW E T V p l e R s m args below meth c nL k n Q q2 L st) : KW E T V p l e R s m args below meth c nL k n Q pc L (.long y :: .long x :: st) := by
  refine k_lcmp pc q C hd hq ?_
  exact k_if_eq q t q2 C hd2 ht hq2 (fun h => kt (lg_eq.mp h)) (fun h => kf (fun z => h (lg_eq.mpr z)))
theorem k_lcmp_ne (pc q t q2 : Nat) (C : Cx E p s m args meth c own cc nL ret) {x y : Int64} {off : Int} (hd : decode cc pc = .ok (.lcmp, 1)) (hq : pc + 1 = q) (hd2 : decode cc q = .ok (.ifCond .ne off, 3)) (ht : (q : Int) + off = (t : Int)) (hq2 : q + 3 = q2) (kt : ¬ x = y → KW E T V p l e R s m args below meth c nL k n Q t L st) (kf : x = y → KW E T V p l e R s m args below meth c nL k n Q q2 L st) : KW E T V p l e R s m args below meth c nL k n Q pc L (.long y :: .long x :: st) := by
  refine k_lcmp pc q C hd hq ?_
  exact k_if_ne q t q2 C hd2 ht hq2 (fun h => kt (fun z => h (lg_eq.mpr z))) (fun h => kf (lg_eq.mp h))
theorem k_lcmp_lt (pc q t q2 : Nat) (C : Cx E p s m args meth c own cc nL ret) {x y : Int64} {off : Int} (hd : decode cc pc = .ok (.lcmp, 1)) (hq : pc + 1 = q) (hd2 : decode cc q = .ok (.ifCond .lt off, 3)) (ht : (q : Int) + off = (t : Int)) (hq2 : q + 3 = q2) (kt : x < y → KW E T V p l e R s m args below meth c nL k n Q t L st) (kf : ¬ x < y → KW E T V p l e R s m args below meth c nL k n Q q2 L st) : KW E T V p l e R s m args below meth c nL k n Q pc L (.long y :: .long x :: st) := by
  refine k_lcmp pc q C hd hq ?_
  exact k_if_lt q t q2 C hd2 ht hq2 (fun h => kt (lg_lt.mp h)) (fun h => kf (fun z => h (lg_lt.mpr z)))
theorem k_lcmp_ge (pc q t q2 : Nat) (C : Cx E p s m args meth c own cc nL ret) {x y : Int64} {off : Int} (hd : decode cc pc = .ok (.lcmp, 1)) (hq : pc + 1 = q) (hd2 : decode cc q = .ok (.ifCond .ge off, 3)) (ht : (q : Int) + off = (t : Int)) (hq2 : q + 3 = q2) (kt : y ≤ x → KW E T V p l e R s m args below meth c nL k n Q t L st) (kf : ¬ y ≤ x → KW E T V p l e R s m args below meth c nL k n Q q2 L st) : KW E T V p l e R s m args below meth c nL k n Q pc L (.long y :: .long x :: st) := by
  refine k_lcmp pc q C hd hq ?_
  exact k_if_ge q t q2 C hd2 ht hq2 (fun h => kt (lg_ge.mp h)) (fun h => kf (fun z => h (lg_ge.mpr z)))
theorem k_lcmp_gt (pc q t q2 : Nat) (C : Cx E p s m args meth c own cc nL ret) {x y : Int64} {off : Int} (hd : decode cc pc = .ok (.lcmp, 1)) (hq : pc + 1 = q) (hd2 : decode cc q = .ok (.ifCond .gt off, 3)) (ht : (q : Int) + off = (t : Int)) (hq2 : q + 3 = q2) (kt : y < x → KW E T V p l e R s m args below meth c nL k n Q t L st) (kf : ¬ y < x → KW E T V p l e R s m args below meth c nL k n Q q2 L st) : KW E T V p l e R s m args below meth c nL k n Q pc L (.long y :: .long x :: st) := by
  refine k_lcmp pc q C hd hq ?_
  exact k_if_gt q t q2 C hd2 ht hq2 (fun h => kt (lg_gt.mp h)) (fun h => kf (fun z => h (lg_gt.mpr z)))
theorem k_lcmp_le (pc q t q2 : Nat) (C : Cx E p s m args meth c own cc nL ret) {x y : Int64} {off : Int} (hd : decode cc pc = .ok (.lcmp, 1)) (hq : pc + 1 = q) (hd2 : decode cc q = .ok (.ifCond .le off, 3)) (ht : (q : Int) + off = (t : Int)) (hq2 : q + 3 = q2) (kt : x ≤ y → KW E T V p l e R s m args below meth c nL k n Q t L st) (kf : ¬ x ≤ y → KW E T V p l e R s m args below meth c nL k n Q q2 L st) : KW E T V p l e R s m args below meth c nL k n Q pc L (.long y :: .long x :: st) := by
  refine k_lcmp pc q C hd hq ?_
  exact k_if_le q t q2 C hd2 ht hq2 (fun h => kt (lg_le.mp h)) (fun h => kf (fun z => h (lg_le.mpr z)))
theorem k_ifb_eq (pc t q : Nat) (C : Cx E p s m args meth c own cc nL ret) {b : Prop} [Decidable b] {off : Int} (hd : decode cc pc = .ok (.ifCond .eq off, 3)) (ht : (pc : Int) + off = (t : Int)) (hq : pc + 3 = q) (kt : ¬ b → KW E T V p l e R s m args below meth c nL k n Q t L st) (kf : b → KW E T V p l e R s m args below meth c nL k n Q q L st) : KW E T V p l e R s m args below meth c nL k n Q pc L (.int (bi b) :: st) :=
  k_if_eq pc t q C hd ht hq (fun h => kt (bi_0.mp h)) (fun h => kf (Classical.not_not.mp (fun z => h (bi_0.mpr z))))
theorem k_ifb_ne (pc t q : Nat) (C : Cx E p s m args meth c own cc nL ret) {b : Prop} [Decidable b] {off : Int} (hd : decode cc pc = .ok (.ifCond .ne off, 3)) (ht : (pc : Int) + off = (t : Int)) (hq : pc + 3 = q) (kt : b → KW E T V p l e R s m args below meth c nL k n Q t L st) (kf : ¬ b → KW E T V p l e R s m args below meth c nL k n Q q L st) : KW E T V p l e R s m args below meth c nL k n Q pc L (.int (bi b) :: st) :=
  k_if_ne pc t q C hd ht hq (fun h => kt (Classical.not_not.mp (fun z => h (bi_0.mpr z)))) (fun h => kf (bi_0.mp h))
theorem k_tabAt (pc t : Nat) (C : Cx E p s m args meth c own cc nL ret) {dflt lo hi : Int} {offs : Array Int} {len : Nat} {x : Int32} {off : Int} (hd : decode cc pc = .ok (.tableswitch dflt lo hi offs, len)) {z : Int32} (h : x = z) (h1 : decide (z.toInt < lo) = false) (h2 : decide (hi < z.toInt) = false) (ho : offs[(z.toInt - lo).toNat]? = some off) (ht : (pc : Int) + off = (t : Int)) (K : KW E T V p l e R s m args below meth c nL k n Q t L st) : KW E T V p l e R s m args below meth c nL k n Q pc L (.int x :: st) := by
  subst h
  exact k_tabIn pc t C hd (of_decide_eq_false h1) (of_decide_eq_false h2) ho ht K
theorem k_switch4 (pc : Nat) (C : Cx E p s m args meth c own cc nL ret) {x : Int32} (cD : x.toInt < 0 ∨ 3 < x.toInt → KW E T V p l e R s m args below meth c nL k n Q pc L (.int x :: st)) (cs0 : x = 0 → KW E T V p l e R s m args below meth c nL k n Q pc L (.int x :: st)) (cs1 : x = 1 → KW E T V p l e R s m args below meth c nL k n Q pc L (.int x :: st)) (cs2 : x = 2 → KW E T V p l e R s m args below meth c nL k n Q pc L (.int x :: st)) (cs3 : x = 3 → KW E T V p l e R s m args below meth c nL k n Q pc L (.int x :: st)) : KW E T V p l e R s m args below meth c nL k n Q pc L (.int x :: st) := by
  by_cases h : x.toInt < 0 ∨ 3 < x.toInt
  · exact cD h
  · have hx : ∀ z : Int32, x.toInt = z.toInt → x = z := fun z h => Int32.toInt_inj.mp h
    rcases (show x.toInt = 0 ∨ x.toInt = 1 ∨ x.toInt = 2 ∨ x.toInt = 3 by omega) with h | h | h | h
    · exact cs0 (hx 0 h)
    · exact cs1 (hx 1 h)
    · exact cs2 (hx 2 h)
    · exact cs3 (hx 3 h)
theorem k_switch7 (pc : Nat) (C : Cx E p s m args meth c own cc nL ret) {x : Int32} (cD : x.toInt < 0 ∨ 6 < x.toInt → KW E T V p l e R s m args below meth c nL k n Q pc L (.int x :: st)) (cs0 : x = 0 → KW E T V p l e R s m args below meth c nL k n Q pc L (.int x :: st)) (cs1 : x = 1 → KW E T V p l e R s m args below meth c nL k n Q pc L (.int x :: st)) (cs2 : x = 2 → KW E T V p l e R s m args below meth c nL k n Q pc L (.int x :: st)) (cs3 : x = 3 → KW E T V p l e R s m args below meth c nL k n Q pc L (.int x :: st)) (cs4 : x = 4 → KW E T V p l e R s m args below meth c nL k n Q pc L (.int x :: st)) (cs5 : x = 5 → KW E T V p l e R s m args below meth c nL k n Q pc L (.int x :: st)) (cs6 : x = 6 → KW E T V p l e R s m args below meth c nL k n Q pc L (.int x :: st)) : KW E T V p l e R s m args below meth c nL k n Q pc L (.int x :: st) := by
  by_cases h : x.toInt < 0 ∨ 6 < x.toInt
  · exact cD h
  · have hx : ∀ z : Int32, x.toInt = z.toInt → x = z := fun z h => Int32.toInt_inj.mp h
    rcases (show x.toInt = 0 ∨ x.toInt = 1 ∨ x.toInt = 2 ∨ x.toInt = 3 ∨ x.toInt = 4 ∨ x.toInt = 5 ∨ x.toInt = 6 by omega) with h | h | h | h | h | h | h
    · exact cs0 (hx 0 h)
    · exact cs1 (hx 1 h)
    · exact cs2 (hx 2 h)
    · exact cs3 (hx 3 h)
    · exact cs4 (hx 4 h)
    · exact cs5 (hx 5 h)
    · exact cs6 (hx 6 h)
theorem k_switch12 (pc : Nat) (C : Cx E p s m args meth c own cc nL ret) {x : Int32} (cD : x.toInt < 0 ∨ 11 < x.toInt → KW E T V p l e R s m args below meth c nL k n Q pc L (.int x :: st)) (cs0 : x = 0 → KW E T V p l e R s m args below meth c nL k n Q pc L (.int x :: st)) (cs1 : x = 1 → KW E T V p l e R s m args below meth c nL k n Q pc L (.int x :: st)) (cs2 : x = 2 → KW E T V p l e R s m args below meth c nL k n Q pc L (.int x :: st)) (cs3 : x = 3 → KW E T V p l e R s m args below meth c nL k n Q pc L (.int x :: st)) (cs4 : x = 4 → KW E T V p l e R s m args below meth c nL k n Q pc L (.int x :: st)) (cs5 : x = 5 → KW E T V p l e R s m args below meth c nL k n Q pc L (.int x :: st)) (cs6 : x = 6 → KW E T V p l e R s m args below meth c nL k n Q pc L (.int x :: st)) (cs7 : x = 7 → KW E T V p l e R s m args below meth c nL k n Q pc L (.int x :: st)) (cs8 : x = 8 → KW E T V p l e R s m args below meth c nL k n Q pc L (.int x :: st)) (cs9 : x = 9 → KW E T V p l e R s m args below meth c nL k n Q pc L (.int x :: st)) (cs10 : x = 10 → KW E T V p l e R s m args below meth c nL k n Q pc L (.int x :: st)) (cs11 : x = 11 → KW E T V p l e R s m args below meth c nL k n Q pc L (.int x :: st)) : KW E T V p l e R s m args below meth c nL k n Q pc L (.int x :: st) := by
  by_cases h : x.toInt < 0 ∨ 11 < x.toInt
  · exact cD h
  · have hx : ∀ z : Int32, x.toInt = z.toInt → x = z := fun z h => Int32.toInt_inj.mp h
    rcases (show x.toInt = 0 ∨ x.toInt = 1 ∨ x.toInt = 2 ∨ x.toInt = 3 ∨ x.toInt = 4 ∨ x.toInt = 5 ∨ x.toInt = 6 ∨ x.toInt = 7 ∨ x.toInt = 8 ∨ x.toInt = 9 ∨ x.toInt = 10 ∨ x.toInt = 11 by omega) with h | h | h | h | h | h | h | h | h | h | h | h
    · exact cs0 (hx 0 h)
    · exact cs1 (hx 1 h)
    · exact cs2 (hx 2 h)
    · exact cs3 (hx 3 h)
    · exact cs4 (hx 4 h)
    · exact cs5 (hx 5 h)
    · exact cs6 (hx 6 h)
    · exact cs7 (hx 7 h)
    · exact cs8 (hx 8 h)
    · exact cs9 (hx 9 h)
    · exact cs10 (hx 10 h)
    · exact cs11 (hx 11 h)
theorem k_switch18 (pc : Nat) (C : Cx E p s m args meth c own cc nL ret) {x : Int32} (cD : x.toInt < 0 ∨ 17 < x.toInt → KW E T V p l e R s m args below meth c nL k n Q pc L (.int x :: st)) (cs0 : x = 0 → KW E T V p l e R s m args below meth c nL k n Q pc L (.int x :: st)) (cs1 : x = 1 → KW E T V p l e R s m args below meth c nL k n Q pc L (.int x :: st)) (cs2 : x = 2 → KW E T V p l e R s m args below meth c nL k n Q pc L (.int x :: st)) (cs3 : x = 3 → KW E T V p l e R s m args below meth c nL k n Q pc L (.int x :: st)) (cs4 : x = 4 → KW E T V p l e R s m args below meth c nL k n Q pc L (.int x :: st)) (cs5 : x = 5 → KW E T V p l e R s m args below meth c nL k n Q pc L (.int x :: st)) (cs6 : x = 6 → KW E T V p l e R s m args below meth c nL k n Q pc L (.int x :: st)) (cs7 : x = 7 → KW E T V p l e R s m args below meth c nL k n Q pc L (.int x :: st)) (cs8 : x = 8 → KW E T V p l e R s m args below meth c nL k n Q pc L (.int x :: st)) (cs9 : x = 9 → KW E T V p l e R s m args below meth c nL k n Q pc L (.int x :: st)) (cs10 : x = 10 → KW E T V p l e R s m args below meth c nL k n Q pc L (.int x :: st)) (cs11 : x = 11 → KW E T V p l e R s m args below meth c nL k n Q pc L (.int x :: st)) (cs12 : x = 12 → KW E T V p l e R s m args below meth c nL k n Q pc L (.int x :: st)) (cs13 : x = 13 → KW E T V p l e R s m args below meth c nL k n Q pc L (.int x :: st)) (cs14 : x = 14 → KW E T V p l e R s m args below meth c nL k n Q pc L (.int x :: st)) (cs15 : x = 15 → KW E T V p l e R s m args below meth c nL k n Q pc L (.int x :: st)) (cs16 : x = 16 → KW E T V p l e R s m args below meth c nL k n Q pc L (.int x :: st)) (cs17 : x = 17 → KW E T V p l e R s m args below meth c nL k n Q pc L (.int x :: st)) : KW E T V p l e R s m args below meth c nL k n Q pc L (.int x :: st) := by
  by_cases h : x.toInt < 0 ∨ 17 < x.toInt
  · exact cD h
  · have hx : ∀ z : Int32, x.toInt = z.toInt → x = z := fun z h => Int32.toInt_inj.mp h
    rcases (show x.toInt = 0 ∨ x.toInt = 1 ∨ x.toInt = 2 ∨ x.toInt = 3 ∨ x.toInt = 4 ∨ x.toInt = 5 ∨ x.toInt = 6 ∨ x.toInt = 7 ∨ x.toInt = 8 ∨ x.toInt = 9 ∨ x.toInt = 10 ∨ x.toInt = 11 ∨ x.toInt = 12 ∨ x.toInt = 13 ∨ x.toInt = 14 ∨ x.toInt = 15 ∨ x.toInt = 16 ∨ x.toInt = 17 by omega) with h | h | h | h | h | h | h | h | h | h | h | h | h | h | h | h | h | h
    · exact cs0 (hx 0 h)
    · exact cs1 (hx 1 h)
    · exact cs2 (hx 2 h)
    · exact cs3 (hx 3 h)
    · exact cs4 (hx 4 h)
    · exact cs5 (hx 5 h)
    · exact cs6 (hx 6 h)
    · exact cs7 (hx 7 h)
    · exact cs8 (hx 8 h)
    · exact cs9 (hx 9 h)
    · exact cs10 (hx 10 h)
    · exact cs11 (hx 11 h)
    · exact cs12 (hx 12 h)
    · exact cs13 (hx 13 h)
    · exact cs14 (hx 14 h)
    · exact cs15 (hx 15 h)
    · exact cs16 (hx 16 h)
    · exact cs17 (hx 17 h)
theorem k_switch21 (pc : Nat) (C : Cx E p s m args meth c own cc nL ret) {x : Int32} (cD : x.toInt < 0 ∨ 20 < x.toInt → KW E T V p l e R s m args below meth c nL k n Q pc L (.int x :: st)) (cs0 : x = 0 → KW E T V p l e R s m args below meth c nL k n Q pc L (.int x :: st)) (cs1 : x = 1 → KW E T V p l e R s m args below meth c nL k n Q pc L (.int x :: st)) (cs2 : x = 2 → KW E T V p l e R s m args below meth c nL k n Q pc L (.int x :: st)) (cs3 : x = 3 → KW E T V p l e R s m args below meth c nL k n Q pc L (.int x :: st)) (cs4 : x = 4 → KW E T V p l e R s m args below meth c nL k n Q pc L (.int x :: st)) (cs5 : x = 5 → KW E T V p l e R s m args below meth c nL k n Q pc L (.int x :: st)) (cs6 : x = 6 → KW E T V p l e R s m args below meth c nL k n Q pc L (.int x :: st)) (cs7 : x = 7 → KW E T V p l e R s m args below meth c nL k n Q pc L (.int x :: st)) (cs8 : x = 8 → KW E T V p l e R s m args below meth c nL k n Q pc L (.int x :: st)) (cs9 : x = 9 → KW E T V p l e R s m args below meth c nL k n Q pc L (.int x :: st)) (cs10 : x = 10 → KW E T V p l e R s m args below meth c nL k n Q pc L (.int x :: st)) (cs11 : x = 11 → KW E T V p l e R s m args below meth c nL k n Q pc L (.int x :: st)) (cs12 : x = 12 → KW E T V p l e R s m args below meth c nL k n Q pc L (.int x :: st)) (cs13 : x = 13 → KW E T V p l e R s m args below meth c nL k n Q pc L (.int x :: st)) (cs14 : x = 14 → KW E T V p l e R s m args below meth c nL k n Q pc L (.int x :: st)) (cs15 : x = 15 → KW E T V p l e R s m args below meth c nL k n Q pc L (.int x :: st)) (cs16 : x = 16 → KW E T V p l e R s m args below meth c nL k n Q pc L (.int x :: st)) (cs17 : x = 17 → KW E T V p l e R s m args below meth c nL k n Q pc L (.int x :: st)) (cs18 : x = 18 → KW E T V p l e R s m args below meth c nL k n Q pc L (.int x :: st)) (cs19 : x = 19 → KW E T V p l e R s m args below meth c nL k n Q pc L (.int x :: st)) (cs20 : x = 20 → KW E T V p l e R s m args below meth c nL k n Q pc L (.int x :: st)) : KW E T V p l e R s m args below meth c nL k n Q pc L (.int x :: st) := by
  by_cases h : x.toInt < 0 ∨ 20 < x.toInt
  · exact cD h
  · have hx : ∀ z : Int32, x.toInt = z.toInt → x = z := fun z h => Int32.toInt_inj.mp h
    rcases (show x.toInt = 0 ∨ x.toInt = 1 ∨ x.toInt = 2 ∨ x.toInt = 3 ∨ x.toInt = 4 ∨ x.toInt = 5 ∨ x.toInt = 6 ∨ x.toInt = 7 ∨ x.toInt = 8 ∨ x.toInt = 9 ∨ x.toInt = 10 ∨ x.toInt = 11 ∨ x.toInt = 12 ∨ x.toInt = 13 ∨ x.toInt = 14 ∨ x.toInt = 15 ∨ x.toInt = 16 ∨ x.toInt = 17 ∨ x.toInt = 18 ∨ x.toInt = 19 ∨ x.toInt = 20 by omega) with h | h | h | h | h | h | h | h | h | h | h | h | h | h | h | h | h | h | h | h | h
    · exact cs0 (hx 0 h)
    · exact cs1 (hx 1 h)
    · exact cs2 (hx 2 h)
    · exact cs3 (hx 3 h)
    · exact cs4 (hx 4 h)
    · exact cs5 (hx 5 h)
    · exact cs6 (hx 6 h)
    · exact cs7 (hx 7 h)
    · exact cs8 (hx 8 h)
    · exact cs9 (hx 9 h)
    · exact cs10 (hx 10 h)
    · exact cs11 (hx 11 h)
    · exact cs12 (hx 12 h)
    · exact cs13 (hx 13 h)
    · exact cs14 (hx 14 h)
    · exact cs15 (hx 15 h)
    · exact cs16 (hx 16 h)
    · exact cs17 (hx 17 h)
    · exact cs18 (hx 18 h)
    · exact cs19 (hx 19 h)
    · exact cs20 (hx 20 h)
theorem k_rwI {pc : Nat} {x y : Int32} (h : x = y) (K : KW E T V p l e R s m args below meth c nL k n Q pc L (.int y :: st)) : KW E T V p l e R s m args below meth c nL k n Q pc L (.int x :: st) := by subst h; exact K
theorem k_rwL {pc : Nat} {x y : Int64} (h : x = y) (K : KW E T V p l e R s m args below meth c nL k n Q pc L (.long y :: st)) : KW E T V p l e R s m args below meth c nL k n Q pc L (.long x :: st) := by subst h; exact K
theorem k_rwF {pc : Nat} {x y : UInt32} (h : x = y) (K : KW E T V p l e R s m args below meth c nL k n Q pc L (.float y :: st)) : KW E T V p l e R s m args below meth c nL k n Q pc L (.float x :: st) := by subst h; exact K
theorem k_rwQ {pc : Nat} {x y : Option Nat} (h : x = y) (K : KW E T V p l e R s m args below meth c nL k n Q pc L (va_rf y :: st)) : KW E T V p l e R s m args below meth c nL k n Q pc L (va_rf x :: st) := by subst h; exact K
theorem k_ifnullO (pc q : Nat) (C : Cx E p s m args meth c own cc nL ret) {x : Nat} {off : Int} (hd : decode cc pc = .ok (.ifnull off, 3)) (hq : pc + 3 = q) (K : KW E T V p l e R s m args below meth c nL k n Q q L st) : KW E T V p l e R s m args below meth c nL k n Q pc L (.ref x :: st) := by
  subst hq
  intro H ls locs hR hS hl
  exact lv_ifnull C.x C.b hd (K H ls locs hR hS hl)
theorem k_ifnonnullO (pc t : Nat) (C : Cx E p s m args meth c own cc nL ret) {x : Nat} {off : Int} (hd : decode cc pc = .ok (.ifnonnull off, 3)) (ht : (pc : Int) + off = (t : Int)) (K : KW E T V p l e R s m args below meth c nL k n Q t L st) : KW E T V p l e R s m args below meth c nL k n Q pc L (.ref x :: st) := fun H ls locs hR hS hl => lv_ifnonnull C.x C.b hd ht (K H ls locs hR hS hl)
theorem k_ifnullN (pc t : Nat) (C : Cx E p s m args meth c own cc nL ret) {off : Int} (hd : decode cc pc = .ok (.ifnull off, 3)) (ht : (pc : Int) + off = (t : Int)) (K : KW E T V p l e R s m args below meth c nL k n Q t L st) : KW E T V p l e R s m args below meth c nL k n Q pc L (.null :: st) := fun H ls locs hR hS hl => lv_ifnullN C.x C.b hd ht (K H ls locs hR hS hl)
theorem k_ifnonnullN (pc q : Nat) (C : Cx E p s m args meth c own cc nL ret) {off : Int} (hd : decode cc pc = .ok (.ifnonnull off, 3)) (hq : pc + 3 = q) (K : KW E T V p l e R s m args below meth c nL k n Q q L st) : KW E T V p l e R s m args below meth c nL k n Q pc L (.null :: st) := by
  subst hq
  intro H ls locs hR hS hl
  exact lv_ifnonnullN C.x C.b hd (K H ls locs hR hS hl)
theorem k_st {pc : Nat} {st' : List Value} (h : st = st') (K : KW E T V p l e R s m args below meth c nL k n Q pc L st') : KW E T V p l e R s m args below meth c nL k n Q pc L st := by subst h; exact K
theorem k_V {pc : Nat} {V' : gV} (h : V = V') (K : KW E T V' p l e R s m args below meth c nL k n Q pc L st) : KW E T V p l e R s m args below meth c nL k n Q pc L st := by subst h; exact K
end KWB
end
section
/-! a drawing as a record: parent, scale, parts, signs, shifts, number of points, places, lines -/
abbrev Dr : Type := Int32 × Int64 × Int64 × Int32 × Int32 × Int64 × Int64 × Nat × (Nat → Int64) × (Nat → Int64) × (Nat → Int32)
def rpa (d : Dr) : Int32 := d.1
def rsc (d : Dr) : Int64 := d.2.1
def rpt (d : Dr) : Int64 := d.2.2.1
def rsx (d : Dr) : Int32 := d.2.2.2.1
def rsy (d : Dr) : Int32 := d.2.2.2.2.1
def rhx (d : Dr) : Int64 := d.2.2.2.2.2.1
def rhy (d : Dr) : Int64 := d.2.2.2.2.2.2.1
def rn (d : Dr) : Nat := d.2.2.2.2.2.2.2.1
def rX (d : Dr) : Nat → Int64 := d.2.2.2.2.2.2.2.2.1
def rY (d : Dr) : Nat → Int64 := d.2.2.2.2.2.2.2.2.2.1
def rl (d : Dr) : Nat → Int32 := d.2.2.2.2.2.2.2.2.2.2
def DV (V : gV) (a : Nat) (d : Dr) : Prop := V.1 a 0 = rpa d ∧ V.2.1 a 1 = rsc d ∧ V.2.1 a 2 = rpt d ∧ V.1 a 3 = rsx d ∧ V.1 a 4 = rsy d ∧ V.2.1 a 5 = rhx d ∧ V.2.1 a 6 = rhy d ∧ V.1 a 7 = nI (rn d) ∧ rn d ≤ 20 ∧ ∀ i, i < rn d → V.2.1 (a + 1) i = rX d i ∧ V.2.1 (a + 2) i = rY d i ∧ V.1 (a + 3) i = rl d i
section DVS
variable {V : gV} {a : Nat} {d : Dr}
theorem DV.f0 (h : DV V a d) : V.1 a 0 = rpa d := h.1
theorem DV.f1 (h : DV V a d) : V.2.1 a 1 = rsc d := h.2.1
theorem DV.f2 (h : DV V a d) : V.2.1 a 2 = rpt d := h.2.2.1
theorem DV.f3 (h : DV V a d) : V.1 a 3 = rsx d := h.2.2.2.1
theorem DV.f4 (h : DV V a d) : V.1 a 4 = rsy d := h.2.2.2.2.1
theorem DV.f5 (h : DV V a d) : V.2.1 a 5 = rhx d := h.2.2.2.2.2.1
theorem DV.f6 (h : DV V a d) : V.2.1 a 6 = rhy d := h.2.2.2.2.2.2.1
theorem DV.f7 (h : DV V a d) : V.1 a 7 = nI (rn d) := h.2.2.2.2.2.2.2.1
theorem DV.le (h : DV V a d) : rn d ≤ 20 := h.2.2.2.2.2.2.2.2.1
theorem DV.x (h : DV V a d) {i : Nat} (hi : i < rn d) : V.2.1 (a + 1) i = rX d i := (h.2.2.2.2.2.2.2.2.2 i hi).1
theorem DV.y (h : DV V a d) {i : Nat} (hi : i < rn d) : V.2.1 (a + 2) i = rY d i := (h.2.2.2.2.2.2.2.2.2 i hi).2.1
theorem DV.l (h : DV V a d) {i : Nat} (hi : i < rn d) : V.1 (a + 3) i = rl d i := (h.2.2.2.2.2.2.2.2.2 i hi).2.2
end DVS
/-- outside of lo .. hi nothing changed -/
def Off (V V' : gV) (lo hi : Nat) : Prop := ∀ b : Nat, (b < lo ∨ hi ≤ b) → V'.1 b = V.1 b ∧ V'.2.1 b = V.2.1 b ∧ V'.2.2 b = V.2.2 b
theorem Off.rf {V : gV} {lo hi : Nat} : Off V V lo hi := fun _ _ => ⟨rfl, rfl, rfl⟩
theorem Off.wI {V V' : gV} {lo hi a k : Nat} {x : Int32} (h : Off V V' lo hi) (h1 : lo ≤ a) (h2 : a < hi) : Off V (wI V' a k x) lo hi := by
  intro b hb
  obtain ⟨e1, e2, e3⟩ := h b hb
  obtain ⟨g1, g2, g3⟩ := wI_off (V := V') (k := k) (x := x) b (a := a) (by omega)
  exact ⟨g1.trans e1, g2.trans e2, g3.trans e3⟩
theorem Off.wL {V V' : gV} {lo hi a k : Nat} {x : Int64} (h : Off V V' lo hi) (h1 : lo ≤ a) (h2 : a < hi) : Off V (wL V' a k x) lo hi := by
  intro b hb
  obtain ⟨e1, e2, e3⟩ := h b hb
  obtain ⟨g1, g2, g3⟩ := wL_off (V := V') (k := k) (x := x) b (a := a) (by omega)
  exact ⟨g1.trans e1, g2.trans e2, g3.trans e3⟩
theorem Off.wR {V V' : gV} {lo hi a k : Nat} {x : Option Nat} (h : Off V V' lo hi) (h1 : lo ≤ a) (h2 : a < hi) : Off V (wR V' a k x) lo hi := by
  intro b hb
  obtain ⟨e1, e2, e3⟩ := h b hb
  obtain ⟨g1, g2, g3⟩ := wR_off (V := V') (k := k) (x := x) b (a := a) (by omega)
  exact ⟨g1.trans e1, g2.trans e2, g3.trans e3⟩
theorem Off.trans {V V' V'' : gV} {lo hi : Nat} (h : Off V V' lo hi) (h2 : Off V' V'' lo hi) : Off V V'' lo hi := by
  intro b hb
  obtain ⟨e1, e2, e3⟩ := h b hb
  obtain ⟨g1, g2, g3⟩ := h2 b hb
  exact ⟨g1.trans e1, g2.trans e2, g3.trans e3⟩
theorem Off.wide {V V' : gV} {lo hi lo' hi' : Nat} (h : Off V V' lo hi) (h1 : lo' ≤ lo) (h2 : hi ≤ hi') : Off V V' lo' hi' := fun b hb => h b (by omega)
theorem DV.off {V V' : gV} {a lo hi : Nat} {d : Dr} (hd : DV V a d) (h : Off V V' lo hi) (hb : a + 4 ≤ lo ∨ hi ≤ a) : DV V' a d := by
  obtain ⟨e1, e2, -⟩ := h a (by omega)
  obtain ⟨-, g2, -⟩ := h (a + 1) (by omega)
  obtain ⟨-, k2, -⟩ := h (a + 2) (by omega)
  obtain ⟨l1, -, -⟩ := h (a + 3) (by omega)
  unfold DV
  rw [e1, e2, g2, k2, l1]
  exact hd
/-! what the calls of a drawing answer -/
def vX (d : Dr) (p : Int32) : Int64 := if ¬ p < 0 ∧ ¬ nI (rn d) ≤ p then rX d p.toNatClampNeg else 0
def vY (d : Dr) (p : Int32) : Int64 := if ¬ p < 0 ∧ ¬ nI (rn d) ≤ p then rY d p.toNatClampNeg else 0
def vL (d : Dr) (p : Int32) : Int32 := if ¬ p < 0 ∧ ¬ nI (rn d) ≤ p then rl d p.toNatClampNeg else -1
def vW (d : Dr) (p : Int32) : Int32 := if vL d p < 0 then 0 else vL d p
def absl (x : Int64) : Int64 := if 0 < x then x else -x
def quo (x y : Int64) : Int64 := if y ≤ 0 then 0 else x / y
def vLen (d : Dr) (p : Int32) : Int32 := (quo (absl (vX d p - vX d (p - 1)) + absl (vY d p - vY d (p - 1))) (rpt d)).toInt32
theorem v_idx {n : Nat} (hn : n ≤ 20) {p : Int32} (h : ¬ p < 0 ∧ ¬ nI n ≤ p) : p.toNatClampNeg < n ∧ ¬ 20 ≤ p := by
  obtain ⟨h0, h1⟩ := h
  obtain ⟨j, hj, rfl⟩ := nI_of h0
  rw [nI_leI (by omega) hj] at h1
  refine ⟨by rw [nI_clamp hj]; omega, fun z => ?_⟩
  have z' : nI 20 ≤ nI j := z
  rw [nI_leI (by omega) hj] at z'
  omega

set_option maxHeartbeats 4000000 in
set_option maxRecDepth 100000 in
theorem ct_X3_isWithin {E : gE} {T : gT} {l : Launch} {V : gV} {a b d : Int32} : CtI E T l yX3_isWithin (gw yX3_isWithin cX3_isWithin 3 (some .boolean)) { frames := 0, cells := 0, slots := 0, locals := 0 } [.int a, .int b, .int d] V (fun (r : Int32) (V' : gV) => V' = V ∧ r = bi (¬ a < b ∧ ¬ d < a)) := by
  refine ctI_of (L := [(0, .int a), (1, .int b), (2, .int d)]) (by decide) rfl (Nat.le_of_ble_eq_true rfl) rfl (fun p e s m args below meth c C => ?_)
  refine k_iload_n 0 1 C dX3_isWithin_0 rfl 0 rfl ?_
  refine k_iload_n 1 2 C dX3_isWithin_1 rfl 1 rfl ?_
  refine k_icmp_lt 2 14 5 C dX3_isWithin_2 (by decide) rfl (fun h2 => ?_) (fun h2 => ?_)
  · refine k_iconst 14 15 C dX3_isWithin_14 rfl (v := 0) rfl ?_
    refine k_zret 15 C dX3_isWithin_15 rfl (by first | exact Or.inl rfl | exact Or.inr rfl | exact bi_01) ?_
    exact ⟨rfl, by simp [bi, h2]⟩
  · refine k_iload_n 5 6 C dX3_isWithin_5 rfl 0 rfl ?_
    refine k_iload_n 6 7 C dX3_isWithin_6 rfl 2 rfl ?_
    refine k_icmp_gt 7 14 10 C dX3_isWithin_7 (by decide) rfl (fun h7 => ?_) (fun h7 => ?_)
    · refine k_iconst 14 15 C dX3_isWithin_14 rfl (v := 0) rfl ?_
      refine k_zret 15 C dX3_isWithin_15 rfl (by first | exact Or.inl rfl | exact Or.inr rfl | exact bi_01) ?_
      exact ⟨rfl, by simp [bi, h2, h7]⟩
    · refine k_iconst 10 11 C dX3_isWithin_10 rfl (v := 1) rfl ?_
      refine k_goto 11 15 C dX3_isWithin_11 (by decide) ?_
      refine k_zret 15 C dX3_isWithin_15 rfl (by first | exact Or.inl rfl | exact Or.inr rfl | exact bi_01) ?_
      exact ⟨rfl, by simp [bi, h2, h7]⟩
set_option maxHeartbeats 4000000 in
set_option maxRecDepth 100000 in
theorem ct_X4_in {E : gE} {T : gT} {l : Launch} {V : gV} {a b d : Int32} : CtI E T l yX4_in (gw yX4_in cX4_in 3 (some .boolean)) { frames := 0, cells := 0, slots := 0, locals := 0 } [.int a, .int b, .int d] V (fun (r : Int32) (V' : gV) => V' = V ∧ r = bi (¬ a < b ∧ ¬ d < a)) := by
  refine ctI_of (L := [(0, .int a), (1, .int b), (2, .int d)]) (by decide) rfl (Nat.le_of_ble_eq_true rfl) rfl (fun p e s m args below meth c C => ?_)
  refine k_iload_n 0 1 C dX4_in_0 rfl 0 rfl ?_
  refine k_iload_n 1 2 C dX4_in_1 rfl 1 rfl ?_
  refine k_icmp_lt 2 14 5 C dX4_in_2 (by decide) rfl (fun h2 => ?_) (fun h2 => ?_)
  · refine k_iconst 14 15 C dX4_in_14 rfl (v := 0) rfl ?_
    refine k_zret 15 C dX4_in_15 rfl (by first | exact Or.inl rfl | exact Or.inr rfl | exact bi_01) ?_
    exact ⟨rfl, by simp [bi, h2]⟩
  · refine k_iload_n 5 6 C dX4_in_5 rfl 0 rfl ?_
    refine k_iload_n 6 7 C dX4_in_6 rfl 2 rfl ?_
    refine k_icmp_gt 7 14 10 C dX4_in_7 (by decide) rfl (fun h7 => ?_) (fun h7 => ?_)
    · refine k_iconst 14 15 C dX4_in_14 rfl (v := 0) rfl ?_
      refine k_zret 15 C dX4_in_15 rfl (by first | exact Or.inl rfl | exact Or.inr rfl | exact bi_01) ?_
      exact ⟨rfl, by simp [bi, h2, h7]⟩
    · refine k_iconst 10 11 C dX4_in_10 rfl (v := 1) rfl ?_
      refine k_goto 11 15 C dX4_in_11 (by decide) ?_
      refine k_zret 15 C dX4_in_15 rfl (by first | exact Or.inl rfl | exact Or.inr rfl | exact bi_01) ?_
      exact ⟨rfl, by simp [bi, h2, h7]⟩
set_option maxHeartbeats 4000000 in
set_option maxRecDepth 100000 in
theorem ct_X3_quotient {E : gE} {T : gT} {l : Launch} {V : gV} {a b : Int64} : CtL E T l yX3_quotient (gw yX3_quotient cX3_quotient 4 (some .long)) { frames := 0, cells := 0, slots := 0, locals := 0 } [.long a, .long b] V (fun (r : Int64) (V' : gV) => V' = V ∧ r = quo a b) := by
  refine ctL_of (L := [(0, .long a), (2, .long b)]) (by decide) rfl (Nat.le_of_ble_eq_true rfl) rfl (fun p e s m args below meth c C => ?_)
  refine k_lload_n 0 1 C dX3_quotient_0 rfl 1 rfl ?_
  refine k_lconst 1 2 C dX3_quotient_1 rfl (v := 0) rfl ?_
  refine k_lcmp_le 2 3 12 6 C dX3_quotient_2 rfl dX3_quotient_3 (by decide) rfl (fun h3 => ?_) (fun h3 => ?_)
  · refine k_lconst 12 13 C dX3_quotient_12 rfl (v := 0) rfl ?_
    refine k_lret 13 C dX3_quotient_13 rfl ?_
    exact ⟨rfl, by simp [quo, h3]⟩
  · refine k_lload_n 6 7 C dX3_quotient_6 rfl 0 rfl ?_
    refine k_lload_n 7 8 C dX3_quotient_7 rfl 1 rfl ?_
    refine k_ldiv 8 9 C dX3_quotient_8 rfl (fun z => h3 (by rw [z]; decide)) ?_
    refine k_goto 9 13 C dX3_quotient_9 (by decide) ?_
    refine k_lret 13 C dX3_quotient_13 rfl ?_
    exact ⟨rfl, by simp [quo, h3]⟩
set_option maxHeartbeats 4000000 in
set_option maxRecDepth 100000 in
theorem ct_X2_isDigit {E : gE} {T : gT} {l : Launch} {V : gV} {a : Int32} : CtI E T l yX2_isDigit (gw yX2_isDigit cX2_isDigit 1 (some .boolean)) { frames := 0, cells := 0, slots := 0, locals := 0 } [.int a] V (fun (r : Int32) (V' : gV) => V' = V ∧ r = bi (¬ a < 48 ∧ ¬ 57 < a)) := by
  refine ctI_of (L := [(0, .int a)]) (by decide) rfl (Nat.le_of_ble_eq_true rfl) rfl (fun p e s m args below meth c C => ?_)
  refine k_iload_n 0 1 C dX2_isDigit_0 rfl 0 rfl ?_
  refine k_bipush 1 3 C dX2_isDigit_1 rfl (v := 48) rfl ?_
  refine k_icmp_lt 3 16 6 C dX2_isDigit_3 (by decide) rfl (fun h3 => ?_) (fun h3 => ?_)
  · refine k_iconst 16 17 C dX2_isDigit_16 rfl (v := 0) rfl ?_
    refine k_zret 17 C dX2_isDigit_17 rfl (by first | exact Or.inl rfl | exact Or.inr rfl | exact bi_01) ?_
    exact ⟨rfl, by simp [bi, h3]⟩
  · refine k_iload_n 6 7 C dX2_isDigit_6 rfl 0 rfl ?_
    refine k_bipush 7 9 C dX2_isDigit_7 rfl (v := 57) rfl ?_
    refine k_icmp_gt 9 16 12 C dX2_isDigit_9 (by decide) rfl (fun h9 => ?_) (fun h9 => ?_)
    · refine k_iconst 16 17 C dX2_isDigit_16 rfl (v := 0) rfl ?_
      refine k_zret 17 C dX2_isDigit_17 rfl (by first | exact Or.inl rfl | exact Or.inr rfl | exact bi_01) ?_
      exact ⟨rfl, by simp [bi, h3, h9]⟩
    · refine k_iconst 12 13 C dX2_isDigit_12 rfl (v := 1) rfl ?_
      refine k_goto 13 17 C dX2_isDigit_13 (by decide) ?_
      refine k_zret 17 C dX2_isDigit_17 rfl (by first | exact Or.inl rfl | exact Or.inr rfl | exact bi_01) ?_
      exact ⟨rfl, by simp [bi, h3, h9]⟩
set_option maxHeartbeats 4000000 in
set_option maxRecDepth 100000 in
theorem ct_X1_has {E : gE} {T : gT} {l : Launch} {V : gV} {i : Int32} {a : Nat} {d : Dr} (ha : IsDrw T a) (hd : DV V a d) : CtI E T l yX1_has (gw yX1_has cX1_has 2 (some .boolean)) { frames := 0, cells := 0, slots := 0, locals := 0 } [.ref a, .int i] V (fun (r : Int32) (V' : gV) => V' = V ∧ r = bi (¬ i < 0 ∧ ¬ nI (rn d) ≤ i)) := by
  refine ctI_of (L := [(0, .ref a), (1, .int i)]) (by decide) rfl (Nat.le_of_ble_eq_true rfl) rfl (fun p e s m args below meth c C => ?_)
  refine k_iload_n 0 1 C dX1_has_0 rfl 1 rfl ?_
  refine k_if_lt 1 16 4 C dX1_has_1 (by decide) rfl (fun h1 => ?_) (fun h1 => ?_)
  · refine k_iconst 16 17 C dX1_has_16 rfl (v := 0) rfl ?_
    refine k_zret 17 C dX1_has_17 rfl (by first | exact Or.inl rfl | exact Or.inr rfl | exact bi_01) ?_
    exact ⟨rfl, by simp [bi, h1]⟩
  · refine k_iload_n 4 5 C dX1_has_4 rfl 1 rfl ?_
    refine k_aload_n 5 6 C dX1_has_5 rfl 0 rfl ?_
    refine k_get 6 9 C dX1_has_6 rfl ci_X1 7 fl_X1_34 (IsDrw.o ‹_›) (by decide) rfl ?_
    refine k_rwI (DV.f7 ‹_›) ?_
    refine k_icmp_ge 9 16 12 C dX1_has_9 (by decide) rfl (fun h9 => ?_) (fun h9 => ?_)
    · refine k_iconst 16 17 C dX1_has_16 rfl (v := 0) rfl ?_
      refine k_zret 17 C dX1_has_17 rfl (by first | exact Or.inl rfl | exact Or.inr rfl | exact bi_01) ?_
      exact ⟨rfl, by simp [bi, h1, h9]⟩
    · refine k_iconst 12 13 C dX1_has_12 rfl (v := 1) rfl ?_
      refine k_goto 13 17 C dX1_has_13 (by decide) ?_
      refine k_zret 17 C dX1_has_17 rfl (by first | exact Or.inl rfl | exact Or.inr rfl | exact bi_01) ?_
      exact ⟨rfl, by simp [bi, h1, h9]⟩
set_option maxHeartbeats 4000000 in
set_option maxRecDepth 100000 in
theorem ct_X1_x {E : gE} {T : gT} {l : Launch} {V : gV} {i : Int32} {a : Nat} {d : Dr} (ha : IsDrw T a) (hd : DV V a d) : CtL E T l yX1_x (gw yX1_x cX1_x 2 (some .long)) { frames := 1, cells := 0, slots := 0, locals := 21 } [.ref a, .int i] V (fun (r : Int64) (V' : gV) => V' = V ∧ r = vX d i) := by
  refine ctL_of (L := [(0, .ref a), (1, .int i)]) (by decide) rfl (Nat.le_of_ble_eq_true rfl) rfl (fun p e s m args below meth c C => ?_)
  refine k_aload_n 0 1 C dX1_x_0 rfl 0 rfl ?_
  refine k_iload_n 1 2 C dX1_x_1 rfl 1 rfl ?_
  refine k_callVI 2 5 C [_] [] dX1_x_2 rfl (ct_X1_has ‹_› ‹_›) mi_X1_has ml_X1_67 im_X1_has se_X1_has ci_X1 (IsDrw.o ‹_›) rfl rfl ⟨Nat.le_of_ble_eq_true rfl, Nat.le_of_ble_eq_true rfl⟩ (Nat.le_of_ble_eq_true rfl) (Nat.zero_le _) (Nat.zero_le _) (fun r2 V2 p2 => ?_)
  obtain ⟨rfl, rfl⟩ := And.intro p2.1.symm p2.2
  refine k_ifb_eq 5 26 8 C dX1_x_5 (by decide) rfl (fun h5 => ?_) (fun h5 => ?_)
  · refine k_lconst 26 27 C dX1_x_26 rfl (v := 0) rfl ?_
    refine k_lret 27 C dX1_x_27 rfl ?_
    first | exact ⟨rfl, (if_neg h5).symm⟩ | exact ⟨rfl, (if_pos h5).symm⟩
  · refine k_iload_n 8 9 C dX1_x_8 rfl 1 rfl ?_
    refine k_aload_n 9 10 C dX1_x_9 rfl 0 rfl ?_
    refine k_getF 10 13 C dX1_x_10 rfl ci_X1 8 fl_X1_37 (IsDrw.o ‹_›) (by decide) (IsDrw.f8 ‹_›) rfl ?_
    refine k_alen 13 14 C dX1_x_13 rfl (IsDrw.a8 ‹_›) (by decide) (v := 20) rfl ?_
    refine k_icmp_ge 14 26 17 C dX1_x_14 (by decide) rfl (fun h14 => ?_) (fun h14 => ?_)
    · exact absurd h14 (v_idx hd.le h5).2
    · refine k_aload_n 17 18 C dX1_x_17 rfl 0 rfl ?_
      refine k_getF 18 21 C dX1_x_18 rfl ci_X1 8 fl_X1_37 (IsDrw.o ‹_›) (by decide) (IsDrw.f8 ‹_›) rfl ?_
      refine k_iload_n 21 22 C dX1_x_21 rfl 1 rfl ?_
      refine k_lald 22 23 C dX1_x_22 rfl (IsDrw.a8 ‹_›) (vi_of (by decide) h5.1 (v_idx hd.le h5).2) ?_
      refine k_rwL (hd.x (v_idx hd.le h5).1) ?_
      refine k_goto 23 27 C dX1_x_23 (by decide) ?_
      refine k_lret 27 C dX1_x_27 rfl ?_
      first | exact ⟨rfl, (if_neg h5).symm⟩ | exact ⟨rfl, (if_pos h5).symm⟩
set_option maxHeartbeats 4000000 in
set_option maxRecDepth 100000 in
theorem ct_X1_y {E : gE} {T : gT} {l : Launch} {V : gV} {i : Int32} {a : Nat} {d : Dr} (ha : IsDrw T a) (hd : DV V a d) : CtL E T l yX1_y (gw yX1_y cX1_y 2 (some .long)) { frames := 1, cells := 0, slots := 0, locals := 21 } [.ref a, .int i] V (fun (r : Int64) (V' : gV) => V' = V ∧ r = vY d i) := by
  refine ctL_of (L := [(0, .ref a), (1, .int i)]) (by decide) rfl (Nat.le_of_ble_eq_true rfl) rfl (fun p e s m args below meth c C => ?_)
  refine k_aload_n 0 1 C dX1_y_0 rfl 0 rfl ?_
  refine k_iload_n 1 2 C dX1_y_1 rfl 1 rfl ?_
  refine k_callVI 2 5 C [_] [] dX1_y_2 rfl (ct_X1_has ‹_› ‹_›) mi_X1_has ml_X1_67 im_X1_has se_X1_has ci_X1 (IsDrw.o ‹_›) rfl rfl ⟨Nat.le_of_ble_eq_true rfl, Nat.le_of_ble_eq_true rfl⟩ (Nat.le_of_ble_eq_true rfl) (Nat.zero_le _) (Nat.zero_le _) (fun r2 V2 p2 => ?_)
  obtain ⟨rfl, rfl⟩ := And.intro p2.1.symm p2.2
  refine k_ifb_eq 5 26 8 C dX1_y_5 (by decide) rfl (fun h5 => ?_) (fun h5 => ?_)
  · refine k_lconst 26 27 C dX1_y_26 rfl (v := 0) rfl ?_
    refine k_lret 27 C dX1_y_27 rfl ?_
    first | exact ⟨rfl, (if_neg h5).symm⟩ | exact ⟨rfl, (if_pos h5).symm⟩
  · refine k_iload_n 8 9 C dX1_y_8 rfl 1 rfl ?_
    refine k_aload_n 9 10 C dX1_y_9 rfl 0 rfl ?_
    refine k_getF 10 13 C dX1_y_10 rfl ci_X1 9 fl_X1_41 (IsDrw.o ‹_›) (by decide) (IsDrw.f9 ‹_›) rfl ?_
    refine k_alen 13 14 C dX1_y_13 rfl (IsDrw.a9 ‹_›) (by decide) (v := 20) rfl ?_
    refine k_icmp_ge 14 26 17 C dX1_y_14 (by decide) rfl (fun h14 => ?_) (fun h14 => ?_)
    · exact absurd h14 (v_idx hd.le h5).2
    · refine k_aload_n 17 18 C dX1_y_17 rfl 0 rfl ?_
      refine k_getF 18 21 C dX1_y_18 rfl ci_X1 9 fl_X1_41 (IsDrw.o ‹_›) (by decide) (IsDrw.f9 ‹_›) rfl ?_
      refine k_iload_n 21 22 C dX1_y_21 rfl 1 rfl ?_
      refine k_lald 22 23 C dX1_y_22 rfl (IsDrw.a9 ‹_›) (vi_of (by decide) h5.1 (v_idx hd.le h5).2) ?_
      refine k_rwL (hd.y (v_idx hd.le h5).1) ?_
      refine k_goto 23 27 C dX1_y_23 (by decide) ?_
      refine k_lret 27 C dX1_y_27 rfl ?_
      first | exact ⟨rfl, (if_neg h5).symm⟩ | exact ⟨rfl, (if_pos h5).symm⟩
set_option maxHeartbeats 4000000 in
set_option maxRecDepth 100000 in
theorem ct_X1_line {E : gE} {T : gT} {l : Launch} {V : gV} {i : Int32} {a : Nat} {d : Dr} (ha : IsDrw T a) (hd : DV V a d) : CtI E T l yX1_line (gw yX1_line cX1_line 2 (some .int)) { frames := 1, cells := 0, slots := 0, locals := 21 } [.ref a, .int i] V (fun (r : Int32) (V' : gV) => V' = V ∧ r = vL d i) := by
  refine ctI_of (L := [(0, .ref a), (1, .int i)]) (by decide) rfl (Nat.le_of_ble_eq_true rfl) rfl (fun p e s m args below meth c C => ?_)
  refine k_aload_n 0 1 C dX1_line_0 rfl 0 rfl ?_
  refine k_iload_n 1 2 C dX1_line_1 rfl 1 rfl ?_
  refine k_callVI 2 5 C [_] [] dX1_line_2 rfl (ct_X1_has ‹_› ‹_›) mi_X1_has ml_X1_67 im_X1_has se_X1_has ci_X1 (IsDrw.o ‹_›) rfl rfl ⟨Nat.le_of_ble_eq_true rfl, Nat.le_of_ble_eq_true rfl⟩ (Nat.le_of_ble_eq_true rfl) (Nat.zero_le _) (Nat.zero_le _) (fun r2 V2 p2 => ?_)
  obtain ⟨rfl, rfl⟩ := And.intro p2.1.symm p2.2
  refine k_ifb_eq 5 26 8 C dX1_line_5 (by decide) rfl (fun h5 => ?_) (fun h5 => ?_)
  · refine k_iconst 26 27 C dX1_line_26 rfl (v := (-1)) rfl ?_
    refine k_iret 27 C dX1_line_27 rfl ?_
    first | exact ⟨rfl, (if_neg h5).symm⟩ | exact ⟨rfl, (if_pos h5).symm⟩
  · refine k_iload_n 8 9 C dX1_line_8 rfl 1 rfl ?_
    refine k_aload_n 9 10 C dX1_line_9 rfl 0 rfl ?_
    refine k_getF 10 13 C dX1_line_10 rfl ci_X1 10 fl_X1_44 (IsDrw.o ‹_›) (by decide) (IsDrw.f10 ‹_›) rfl ?_
    refine k_alen 13 14 C dX1_line_13 rfl (IsDrw.a10 ‹_›) (by decide) (v := 20) rfl ?_
    refine k_icmp_ge 14 26 17 C dX1_line_14 (by decide) rfl (fun h14 => ?_) (fun h14 => ?_)
    · exact absurd h14 (v_idx hd.le h5).2
    · refine k_aload_n 17 18 C dX1_line_17 rfl 0 rfl ?_
      refine k_getF 18 21 C dX1_line_18 rfl ci_X1 10 fl_X1_44 (IsDrw.o ‹_›) (by decide) (IsDrw.f10 ‹_›) rfl ?_
      refine k_iload_n 21 22 C dX1_line_21 rfl 1 rfl ?_
      refine k_iald 22 23 C dX1_line_22 rfl (IsDrw.a10 ‹_›) (vi_of (by decide) h5.1 (v_idx hd.le h5).2) ?_
      refine k_rwI (hd.l (v_idx hd.le h5).1) ?_
      refine k_goto 23 27 C dX1_line_23 (by decide) ?_
      refine k_iret 27 C dX1_line_27 rfl ?_
      first | exact ⟨rfl, (if_neg h5).symm⟩ | exact ⟨rfl, (if_pos h5).symm⟩
set_option maxHeartbeats 4000000 in
set_option maxRecDepth 100000 in
theorem ct_X1_isJoined {E : gE} {T : gT} {l : Launch} {V : gV} {i : Int32} {a : Nat} {d : Dr} (ha : IsDrw T a) (hd : DV V a d) : CtI E T l yX1_isJoined (gw yX1_isJoined cX1_isJoined 2 (some .boolean)) { frames := 2, cells := 0, slots := 0, locals := 42 } [.ref a, .int i] V (fun (r : Int32) (V' : gV) => V' = V ∧ r = bi (¬ vL d i = -1)) := by
  refine ctI_of (L := [(0, .ref a), (1, .int i)]) (by decide) rfl (Nat.le_of_ble_eq_true rfl) rfl (fun p e s m args below meth c C => ?_)
  refine k_aload_n 0 1 C dX1_isJoined_0 rfl 0 rfl ?_
  refine k_iload_n 1 2 C dX1_isJoined_1 rfl 1 rfl ?_
  refine k_callVI 2 5 C [_] [] dX1_isJoined_2 rfl (ct_X1_line ‹_› ‹_›) mi_X1_line ml_X1_59 im_X1_line se_X1_line ci_X1 (IsDrw.o ‹_›) rfl rfl ⟨Nat.le_of_ble_eq_true rfl, Nat.le_of_ble_eq_true rfl⟩ (Nat.le_of_ble_eq_true rfl) (Nat.zero_le _) (Nat.zero_le _) (fun r2 V2 p2 => ?_)
  obtain ⟨rfl, rfl⟩ := And.intro p2.1.symm p2.2
  refine k_iconst 5 6 C dX1_isJoined_5 rfl (v := (-1)) rfl ?_
  refine k_icmp_eq 6 13 9 C dX1_isJoined_6 (by decide) rfl (fun h6 => ?_) (fun h6 => ?_)
  · refine k_iconst 13 14 C dX1_isJoined_13 rfl (v := 0) rfl ?_
    refine k_zret 14 C dX1_isJoined_14 rfl (by first | exact Or.inl rfl | exact Or.inr rfl | exact bi_01) ?_
    exact ⟨rfl, by simp [bi, h6]⟩
  · refine k_iconst 9 10 C dX1_isJoined_9 rfl (v := 1) rfl ?_
    refine k_goto 10 14 C dX1_isJoined_10 (by decide) ?_
    refine k_zret 14 C dX1_isJoined_14 rfl (by first | exact Or.inl rfl | exact Or.inr rfl | exact bi_01) ?_
    exact ⟨rfl, by simp [bi, h6]⟩
set_option maxHeartbeats 4000000 in
set_option maxRecDepth 100000 in
theorem ct_X1_width {E : gE} {T : gT} {l : Launch} {V : gV} {i : Int32} {a : Nat} {d : Dr} (ha : IsDrw T a) (hd : DV V a d) : CtI E T l yX1_width (gw yX1_width cX1_width 2 (some .int)) { frames := 2, cells := 0, slots := 0, locals := 42 } [.ref a, .int i] V (fun (r : Int32) (V' : gV) => V' = V ∧ r = vW d i) := by
  refine ctI_of (L := [(0, .ref a), (1, .int i)]) (by decide) rfl (Nat.le_of_ble_eq_true rfl) rfl (fun p e s m args below meth c C => ?_)
  refine k_aload_n 0 1 C dX1_width_0 rfl 0 rfl ?_
  refine k_iload_n 1 2 C dX1_width_1 rfl 1 rfl ?_
  refine k_callVI 2 5 C [_] [] dX1_width_2 rfl (ct_X1_line ‹_› ‹_›) mi_X1_line ml_X1_59 im_X1_line se_X1_line ci_X1 (IsDrw.o ‹_›) rfl rfl ⟨Nat.le_of_ble_eq_true rfl, Nat.le_of_ble_eq_true rfl⟩ (Nat.le_of_ble_eq_true rfl) (Nat.zero_le _) (Nat.zero_le _) (fun r2 V2 p2 => ?_)
  obtain ⟨rfl, rfl⟩ := And.intro p2.1.symm p2.2
  refine k_iconst 5 6 C dX1_width_5 rfl (v := 0) rfl ?_
  refine k_max 6 9 C dX1_width_6 rfl ml_X1_71 (Nat.le_of_ble_eq_true rfl) (Nat.le_of_ble_eq_true rfl) (Nat.zero_le _) (Nat.zero_le _) ?_
  refine k_iret 9 C dX1_width_9 rfl ?_
  exact ⟨rfl, by simp [vW, ]⟩
set_option maxHeartbeats 4000000 in
set_option maxRecDepth 100000 in
theorem ct_X1_isCopy {E : gE} {T : gT} {l : Launch} {V : gV} {a : Nat} {d : Dr} (ha : IsDrw T a) (hd : DV V a d) : CtI E T l yX1_isCopy (gw yX1_isCopy cX1_isCopy 1 (some .boolean)) { frames := 0, cells := 0, slots := 0, locals := 0 } [.ref a] V (fun (r : Int32) (V' : gV) => V' = V ∧ r = bi (¬ rpa d = -1)) := by
  refine ctI_of (L := [(0, .ref a)]) (by decide) rfl (Nat.le_of_ble_eq_true rfl) rfl (fun p e s m args below meth c C => ?_)
  refine k_aload_n 0 1 C dX1_isCopy_0 rfl 0 rfl ?_
  refine k_get 1 4 C dX1_isCopy_1 rfl ci_X1 0 fl_X1_9 (IsDrw.o ‹_›) (by decide) rfl ?_
  refine k_rwI (DV.f0 ‹_›) ?_
  refine k_iconst 4 5 C dX1_isCopy_4 rfl (v := (-1)) rfl ?_
  refine k_icmp_eq 5 12 8 C dX1_isCopy_5 (by decide) rfl (fun h5 => ?_) (fun h5 => ?_)
  · refine k_iconst 12 13 C dX1_isCopy_12 rfl (v := 0) rfl ?_
    refine k_zret 13 C dX1_isCopy_13 rfl (by first | exact Or.inl rfl | exact Or.inr rfl | exact bi_01) ?_
    exact ⟨rfl, by simp [bi, h5]⟩
  · refine k_iconst 8 9 C dX1_isCopy_8 rfl (v := 1) rfl ?_
    refine k_goto 9 13 C dX1_isCopy_9 (by decide) ?_
    refine k_zret 13 C dX1_isCopy_13 rfl (by first | exact Or.inl rfl | exact Or.inr rfl | exact bi_01) ?_
    exact ⟨rfl, by simp [bi, h5]⟩
set_option maxHeartbeats 4000000 in
set_option maxRecDepth 100000 in
theorem ct_X1_isFull {E : gE} {T : gT} {l : Launch} {V : gV} {a : Nat} {d : Dr} (ha : IsDrw T a) (hd : DV V a d) : CtI E T l yX1_isFull (gw yX1_isFull cX1_isFull 1 (some .boolean)) { frames := 0, cells := 0, slots := 0, locals := 0 } [.ref a] V (fun (r : Int32) (V' : gV) => V' = V ∧ r = bi (¬ nI (rn d) < 20)) := by
  refine ctI_of (L := [(0, .ref a)]) (by decide) rfl (Nat.le_of_ble_eq_true rfl) rfl (fun p e s m args below meth c C => ?_)
  refine k_aload_n 0 1 C dX1_isFull_0 rfl 0 rfl ?_
  refine k_get 1 4 C dX1_isFull_1 rfl ci_X1 7 fl_X1_34 (IsDrw.o ‹_›) (by decide) rfl ?_
  refine k_rwI (DV.f7 ‹_›) ?_
  refine k_bipush 4 6 C dX1_isFull_4 rfl (v := 20) rfl ?_
  refine k_icmp_lt 6 13 9 C dX1_isFull_6 (by decide) rfl (fun h6 => ?_) (fun h6 => ?_)
  · refine k_iconst 13 14 C dX1_isFull_13 rfl (v := 0) rfl ?_
    refine k_zret 14 C dX1_isFull_14 rfl (by first | exact Or.inl rfl | exact Or.inr rfl | exact bi_01) ?_
    exact ⟨rfl, by simp [bi, h6]⟩
  · refine k_iconst 9 10 C dX1_isFull_9 rfl (v := 1) rfl ?_
    refine k_goto 10 14 C dX1_isFull_10 (by decide) ?_
    refine k_zret 14 C dX1_isFull_14 rfl (by first | exact Or.inl rfl | exact Or.inr rfl | exact bi_01) ?_
    exact ⟨rfl, by simp [bi, h6]⟩
set_option maxHeartbeats 4000000 in
set_option maxRecDepth 100000 in
theorem ct_X1_lineLength {E : gE} {T : gT} {l : Launch} {V : gV} {i : Int32} {a : Nat} {d : Dr} (ha : IsDrw T a) (hd : DV V a d) : CtI E T l yX1_lineLength (gw yX1_lineLength cX1_lineLength 6 (some .int)) { frames := 2, cells := 0, slots := 0, locals := 42 } [.ref a, .int i] V (fun (r : Int32) (V' : gV) => V' = V ∧ r = vLen d i) := by
  refine ctI_of (L := [(0, .ref a), (1, .int i)]) (by decide) rfl (Nat.le_of_ble_eq_true rfl) rfl (fun p e s m args below meth c C => ?_)
  refine k_aload_n 0 1 C dX1_lineLength_0 rfl 0 rfl ?_
  refine k_iload_n 1 2 C dX1_lineLength_1 rfl 1 rfl ?_
  refine k_callVL 2 5 C [_] [] dX1_lineLength_2 rfl (ct_X1_x ‹_› ‹_›) mi_X1_x ml_X1_52 im_X1_x se_X1_x ci_X1 (IsDrw.o ‹_›) rfl rfl ⟨Nat.le_of_ble_eq_true rfl, Nat.le_of_ble_eq_true rfl⟩ (Nat.le_of_ble_eq_true rfl) (Nat.zero_le _) (Nat.zero_le _) (fun r2 V2 p2 => ?_)
  obtain ⟨rfl, rfl⟩ := And.intro p2.1.symm p2.2
  refine k_aload_n 5 6 C dX1_lineLength_5 rfl 0 rfl ?_
  refine k_iload_n 6 7 C dX1_lineLength_6 rfl 1 rfl ?_
  refine k_iconst 7 8 C dX1_lineLength_7 rfl (v := 1) rfl ?_
  refine k_isub 8 9 C dX1_lineLength_8 rfl  ?_
  refine k_callVL 9 12 C [_] [_] dX1_lineLength_9 rfl (ct_X1_x ‹_› ‹_›) mi_X1_x ml_X1_52 im_X1_x se_X1_x ci_X1 (IsDrw.o ‹_›) rfl rfl ⟨Nat.le_of_ble_eq_true rfl, Nat.le_of_ble_eq_true rfl⟩ (Nat.le_of_ble_eq_true rfl) (Nat.zero_le _) (Nat.zero_le _) (fun r9 V9 p9 => ?_)
  obtain ⟨rfl, rfl⟩ := And.intro p9.1.symm p9.2
  refine k_lsub 12 13 C dX1_lineLength_12 rfl  ?_
  refine k_absl 13 16 C dX1_lineLength_13 rfl ml_X1_77 (Nat.le_of_ble_eq_true rfl) (Nat.le_of_ble_eq_true rfl) (Nat.zero_le _) (Nat.zero_le _) ?_
  refine k_lstore_n 16 17 C [(2, _), (0, _), (1, _)] dX1_lineLength_16 rfl (by decide) rfl ?_
  refine k_aload_n 17 18 C dX1_lineLength_17 rfl 1 rfl ?_
  refine k_iload_n 18 19 C dX1_lineLength_18 rfl 2 rfl ?_
  refine k_callVL 19 22 C [_] [] dX1_lineLength_19 rfl (ct_X1_y ‹_› ‹_›) mi_X1_y ml_X1_56 im_X1_y se_X1_y ci_X1 (IsDrw.o ‹_›) rfl rfl ⟨Nat.le_of_ble_eq_true rfl, Nat.le_of_ble_eq_true rfl⟩ (Nat.le_of_ble_eq_true rfl) (Nat.zero_le _) (Nat.zero_le _) (fun r19 V19 p19 => ?_)
  obtain ⟨rfl, rfl⟩ := And.intro p19.1.symm p19.2
  refine k_aload_n 22 23 C dX1_lineLength_22 rfl 1 rfl ?_
  refine k_iload_n 23 24 C dX1_lineLength_23 rfl 2 rfl ?_
  refine k_iconst 24 25 C dX1_lineLength_24 rfl (v := 1) rfl ?_
  refine k_isub 25 26 C dX1_lineLength_25 rfl  ?_
  refine k_callVL 26 29 C [_] [_] dX1_lineLength_26 rfl (ct_X1_y ‹_› ‹_›) mi_X1_y ml_X1_56 im_X1_y se_X1_y ci_X1 (IsDrw.o ‹_›) rfl rfl ⟨Nat.le_of_ble_eq_true rfl, Nat.le_of_ble_eq_true rfl⟩ (Nat.le_of_ble_eq_true rfl) (Nat.zero_le _) (Nat.zero_le _) (fun r26 V26 p26 => ?_)
  obtain ⟨rfl, rfl⟩ := And.intro p26.1.symm p26.2
  refine k_lsub 29 30 C dX1_lineLength_29 rfl  ?_
  refine k_absl 30 33 C dX1_lineLength_30 rfl ml_X1_77 (Nat.le_of_ble_eq_true rfl) (Nat.le_of_ble_eq_true rfl) (Nat.zero_le _) (Nat.zero_le _) ?_
  refine k_lstore 33 35 C [(4, _), (2, _), (0, _), (1, _)] dX1_lineLength_33 rfl (by decide) rfl ?_
  refine k_lload_n 35 36 C dX1_lineLength_35 rfl 1 rfl ?_
  refine k_lload 36 38 C dX1_lineLength_36 rfl 0 rfl ?_
  refine k_ladd 38 39 C dX1_lineLength_38 rfl  ?_
  refine k_aload_n 39 40 C dX1_lineLength_39 rfl 2 rfl ?_
  refine k_get 40 43 C dX1_lineLength_40 rfl ci_X1 2 fl_X1_19 (IsDrw.o ‹_›) (by decide) rfl ?_
  refine k_rwL (DV.f2 ‹_›) ?_
  refine k_callSNL 43 46 C [_, _] [] dX1_lineLength_43 rfl ct_X3_quotient mi_X3_quotient mn_X1_81 st_X3_quotient rfl rfl ⟨Nat.le_of_ble_eq_true rfl, Nat.le_of_ble_eq_true rfl⟩ (Nat.le_of_ble_eq_true rfl) (Nat.zero_le _) (Nat.zero_le _) (fun r43 V43 p43 => ?_)
  obtain ⟨rfl, rfl⟩ := And.intro p43.1.symm p43.2
  refine k_l2i 46 47 C dX1_lineLength_46 rfl  ?_
  refine k_iret 47 C dX1_lineLength_47 rfl ?_
  exact ⟨rfl, rfl⟩
set_option maxHeartbeats 4000000 in
set_option maxRecDepth 100000 in
theorem ct_X1_xAtOnce {E : gE} {T : gT} {l : Launch} {V : gV} {x : Int64} {a : Nat} {d : Dr} (ha : IsDrw T a) (hd : DV V a d) : CtL E T l yX1_xAtOnce (gw yX1_xAtOnce cX1_xAtOnce 3 (some .long)) { frames := 0, cells := 0, slots := 0, locals := 0 } [.ref a, .long x] V (fun (r : Int64) (V' : gV) => V' = V ∧ r = rsc d * (rsx d).toInt64 * x + rhx d) := by
  refine ctL_of (L := [(0, .ref a), (1, .long x)]) (by decide) rfl (Nat.le_of_ble_eq_true rfl) rfl (fun p e s m args below meth c C => ?_)
  refine k_aload_n 0 1 C dX1_xAtOnce_0 rfl 0 rfl ?_
  refine k_get 1 4 C dX1_xAtOnce_1 rfl ci_X1 1 fl_X1_15 (IsDrw.o ‹_›) (by decide) rfl ?_
  refine k_rwL (DV.f1 ‹_›) ?_
  refine k_aload_n 4 5 C dX1_xAtOnce_4 rfl 0 rfl ?_
  refine k_get 5 8 C dX1_xAtOnce_5 rfl ci_X1 3 fl_X1_22 (IsDrw.o ‹_›) (by decide) rfl ?_
  refine k_rwI (DV.f3 ‹_›) ?_
  refine k_i2l 8 9 C dX1_xAtOnce_8 rfl  ?_
  refine k_lmul 9 10 C dX1_xAtOnce_9 rfl  ?_
  refine k_lload_n 10 11 C dX1_xAtOnce_10 rfl 1 rfl ?_
  refine k_lmul 11 12 C dX1_xAtOnce_11 rfl  ?_
  refine k_aload_n 12 13 C dX1_xAtOnce_12 rfl 0 rfl ?_
  refine k_get 13 16 C dX1_xAtOnce_13 rfl ci_X1 5 fl_X1_28 (IsDrw.o ‹_›) (by decide) rfl ?_
  refine k_rwL (DV.f5 ‹_›) ?_
  refine k_ladd 16 17 C dX1_xAtOnce_16 rfl  ?_
  refine k_lret 17 C dX1_xAtOnce_17 rfl ?_
  exact ⟨rfl, rfl⟩
set_option maxHeartbeats 4000000 in
set_option maxRecDepth 100000 in
theorem ct_X1_yAtOnce {E : gE} {T : gT} {l : Launch} {V : gV} {x : Int64} {a : Nat} {d : Dr} (ha : IsDrw T a) (hd : DV V a d) : CtL E T l yX1_yAtOnce (gw yX1_yAtOnce cX1_yAtOnce 3 (some .long)) { frames := 0, cells := 0, slots := 0, locals := 0 } [.ref a, .long x] V (fun (r : Int64) (V' : gV) => V' = V ∧ r = rsc d * (rsy d).toInt64 * x + rhy d) := by
  refine ctL_of (L := [(0, .ref a), (1, .long x)]) (by decide) rfl (Nat.le_of_ble_eq_true rfl) rfl (fun p e s m args below meth c C => ?_)
  refine k_aload_n 0 1 C dX1_yAtOnce_0 rfl 0 rfl ?_
  refine k_get 1 4 C dX1_yAtOnce_1 rfl ci_X1 1 fl_X1_15 (IsDrw.o ‹_›) (by decide) rfl ?_
  refine k_rwL (DV.f1 ‹_›) ?_
  refine k_aload_n 4 5 C dX1_yAtOnce_4 rfl 0 rfl ?_
  refine k_get 5 8 C dX1_yAtOnce_5 rfl ci_X1 4 fl_X1_25 (IsDrw.o ‹_›) (by decide) rfl ?_
  refine k_rwI (DV.f4 ‹_›) ?_
  refine k_i2l 8 9 C dX1_yAtOnce_8 rfl  ?_
  refine k_lmul 9 10 C dX1_yAtOnce_9 rfl  ?_
  refine k_lload_n 10 11 C dX1_yAtOnce_10 rfl 1 rfl ?_
  refine k_lmul 11 12 C dX1_yAtOnce_11 rfl  ?_
  refine k_aload_n 12 13 C dX1_yAtOnce_12 rfl 0 rfl ?_
  refine k_get 13 16 C dX1_yAtOnce_13 rfl ci_X1 6 fl_X1_31 (IsDrw.o ‹_›) (by decide) rfl ?_
  refine k_rwL (DV.f6 ‹_›) ?_
  refine k_ladd 16 17 C dX1_yAtOnce_16 rfl  ?_
  refine k_lret 17 C dX1_yAtOnce_17 rfl ?_
  exact ⟨rfl, rfl⟩
def cntW (d : Dr) : Nat → Nat
  | 0 => 0
  | j + 1 => cntW d j + (if 0 < vW d (nI j) then 1 else 0)
theorem cntW_le (d : Dr) : ∀ j, cntW d j ≤ j
  | 0 => Nat.le_refl 0
  | j + 1 => by have h := cntW_le d j; unfold cntW; split <;> omega
def sumW (d : Dr) : Nat → Int32
  | 0 => 0
  | j + 1 => if 0 < vW d (nI j) then sumW d j + vLen d (nI j) else sumW d j
def maxW (d : Dr) : Nat → Int32
  | 0 => 0
  | j + 1 => if maxW d j < vW d (nI j) then vW d (nI j) else maxW d j
theorem n20 {n j : Nat} (hn : n ≤ 20) (hj : j ≤ 20) : nI n ≤ nI j ↔ n ≤ j := nI_leI (by omega) (by omega)
end
section
set_option maxHeartbeats 4000000 in
set_option maxRecDepth 100000 in
theorem ct_X1_drawnLines {E : gE} {T : gT} {l : Launch} {V : gV} {a : Nat} {d : Dr} (ha : IsDrw T a) (hd : DV V a d) : CtI E T l yX1_drawnLines (gw yX1_drawnLines cX1_drawnLines 3 (some .int)) { frames := 3, cells := 0, slots := 0, locals := 63 } [.ref a] V (fun (r : Int32) (V' : gV) => V' = V ∧ r = nI (cntW d (rn d))) := by
  refine ctI_of (L := [(0, .ref a)]) (by decide) rfl (Nat.le_of_ble_eq_true rfl) rfl (fun p e s m args below meth c C => ?_)
  have loop4 : ∀ (f : Nat) (j : Nat), rn d - j = f → (j ≤ rn d) → KW E T V p l e { frames := 3, cells := 0, slots := 0, locals := 63 } s m args below meth c 3 0 0 (MQ below (va_Qi (fun (r : Int32) (V' : gV) => V' = V ∧ r = nI (cntW d (rn d))) (RepS E T) (gA E)) args s 0 0 (gA E)) 4 [(2, .int (nI j)), (1, .int (nI (cntW d j))), (0, .ref a)] [] := by
    intro f
    induction f using Nat.strongRecOn with
    | _ f ih =>
    intro j hf hj
    refine k_iload_n 4 5 C dX1_drawnLines_4 rfl 0 rfl ?_
    refine k_aload_n 5 6 C dX1_drawnLines_5 rfl 2 rfl ?_
    refine k_get 6 9 C dX1_drawnLines_6 rfl ci_X1 7 fl_X1_34 (IsDrw.o ‹_›) (by decide) rfl ?_
    refine k_rwI (hd.f7) ?_
    refine k_icmp_ge 9 29 12 C dX1_drawnLines_9 (by decide) rfl (fun h9 => ?_) (fun h9 => ?_)
    · rw [n20 hd.le (Nat.le_trans hj hd.le)] at h9
      obtain rfl : j = rn d := by omega
      refine k_iload_n 29 30 C dX1_drawnLines_29 rfl 1 rfl ?_
      refine k_iret 30 C dX1_drawnLines_30 rfl ?_
      exact ⟨rfl, rfl⟩
    · rw [n20 hd.le (Nat.le_trans hj hd.le)] at h9
      refine k_aload_n 12 13 C dX1_drawnLines_12 rfl 2 rfl ?_
      refine k_iload_n 13 14 C dX1_drawnLines_13 rfl 0 rfl ?_
      refine k_callVI 14 17 C [_] [] dX1_drawnLines_14 rfl (ct_X1_width ‹_› ‹_›) mi_X1_width ml_X1_85 im_X1_width se_X1_width ci_X1 (IsDrw.o ‹_›) rfl rfl ⟨Nat.le_of_ble_eq_true rfl, Nat.le_of_ble_eq_true rfl⟩ (Nat.le_of_ble_eq_true rfl) (Nat.zero_le _) (Nat.zero_le _) (fun r14 V14 p14 => ?_)
      obtain ⟨rfl, rfl⟩ := And.intro p14.1.symm p14.2
      refine k_if_le 17 23 20 C dX1_drawnLines_17 (by decide) rfl (fun h17 => ?_) (fun h17 => ?_)
      · refine k_iinc 23 26 C [(2, _), (1, _), (0, _)] (nI (j + 1)) dX1_drawnLines_23 rfl 0 rfl (nI_1 j) (by decide) rfl ?_
        refine k_goto 26 4 C dX1_drawnLines_26 (by decide) ?_
        have h := ih (rn d - (j + 1)) (by omega) (j + 1) rfl (by omega)
        first | (rw [show cntW d (j + 1) = cntW d j from by simp [cntW, i32_not_lt.mpr h17]] at h; exact h) | (rw [show cntW d (j + 1) = cntW d j + 1 from by simp [cntW, i32_not_le.mp h17]] at h; exact h)
      · refine k_iinc 20 23 C [(1, _), (2, _), (0, _)] (nI (cntW d j + 1)) dX1_drawnLines_20 rfl 1 rfl (nI_1 _) (by decide) rfl ?_
        refine k_iinc 23 26 C [(2, _), (1, _), (0, _)] (nI (j + 1)) dX1_drawnLines_23 rfl 1 rfl (nI_1 j) (by decide) rfl ?_
        refine k_goto 26 4 C dX1_drawnLines_26 (by decide) ?_
        have h := ih (rn d - (j + 1)) (by omega) (j + 1) rfl (by omega)
        first | (rw [show cntW d (j + 1) = cntW d j from by simp [cntW, i32_not_lt.mpr h17]] at h; exact h) | (rw [show cntW d (j + 1) = cntW d j + 1 from by simp [cntW, i32_not_le.mp h17]] at h; exact h)
  refine k_iconst 0 1 C dX1_drawnLines_0 rfl (v := 0) rfl ?_
  refine k_istore_n 1 2 C [(1, _), (0, _)] dX1_drawnLines_1 rfl (by decide) rfl ?_
  refine k_iconst 2 3 C dX1_drawnLines_2 rfl (v := 0) rfl ?_
  refine k_istore_n 3 4 C [(2, _), (1, _), (0, _)] dX1_drawnLines_3 rfl (by decide) rfl ?_
  exact loop4 _ 0 rfl (Nat.zero_le _)
set_option maxHeartbeats 4000000 in
set_option maxRecDepth 100000 in
theorem ct_X1_drawnLength {E : gE} {T : gT} {l : Launch} {V : gV} {a : Nat} {d : Dr} (ha : IsDrw T a) (hd : DV V a d) : CtI E T l yX1_drawnLength (gw yX1_drawnLength cX1_drawnLength 3 (some .int)) { frames := 3, cells := 0, slots := 0, locals := 67 } [.ref a] V (fun (r : Int32) (V' : gV) => V' = V ∧ r = sumW d (rn d)) := by
  refine ctI_of (L := [(0, .ref a)]) (by decide) rfl (Nat.le_of_ble_eq_true rfl) rfl (fun p e s m args below meth c C => ?_)
  have loop4 : ∀ (f : Nat) (j : Nat), rn d - j = f → (j ≤ rn d) → KW E T V p l e { frames := 3, cells := 0, slots := 0, locals := 67 } s m args below meth c 3 0 0 (MQ below (va_Qi (fun (r : Int32) (V' : gV) => V' = V ∧ r = sumW d (rn d)) (RepS E T) (gA E)) args s 0 0 (gA E)) 4 [(2, .int (nI j)), (1, .int (sumW d j)), (0, .ref a)] [] := by
    intro f
    induction f using Nat.strongRecOn with
    | _ f ih =>
    intro j hf hj
    refine k_iload_n 4 5 C dX1_drawnLength_4 rfl 0 rfl ?_
    refine k_aload_n 5 6 C dX1_drawnLength_5 rfl 2 rfl ?_
    refine k_get 6 9 C dX1_drawnLength_6 rfl ci_X1 7 fl_X1_34 (IsDrw.o ‹_›) (by decide) rfl ?_
    refine k_rwI (hd.f7) ?_
    refine k_icmp_ge 9 34 12 C dX1_drawnLength_9 (by decide) rfl (fun h9 => ?_) (fun h9 => ?_)
    · rw [n20 hd.le (Nat.le_trans hj hd.le)] at h9
      obtain rfl : j = rn d := by omega
      refine k_iload_n 34 35 C dX1_drawnLength_34 rfl 1 rfl ?_
      refine k_iret 35 C dX1_drawnLength_35 rfl ?_
      exact ⟨rfl, rfl⟩
    · rw [n20 hd.le (Nat.le_trans hj hd.le)] at h9
      refine k_aload_n 12 13 C dX1_drawnLength_12 rfl 2 rfl ?_
      refine k_iload_n 13 14 C dX1_drawnLength_13 rfl 0 rfl ?_
      refine k_callVI 14 17 C [_] [] dX1_drawnLength_14 rfl (ct_X1_width ‹_› ‹_›) mi_X1_width ml_X1_85 im_X1_width se_X1_width ci_X1 (IsDrw.o ‹_›) rfl rfl ⟨Nat.le_of_ble_eq_true rfl, Nat.le_of_ble_eq_true rfl⟩ (Nat.le_of_ble_eq_true rfl) (Nat.zero_le _) (Nat.zero_le _) (fun r14 V14 p14 => ?_)
      obtain ⟨rfl, rfl⟩ := And.intro p14.1.symm p14.2
      refine k_if_le 17 28 20 C dX1_drawnLength_17 (by decide) rfl (fun h17 => ?_) (fun h17 => ?_)
      · refine k_iinc 28 31 C [(2, _), (1, _), (0, _)] (nI (j + 1)) dX1_drawnLength_28 rfl 0 rfl (nI_1 j) (by decide) rfl ?_
        refine k_goto 31 4 C dX1_drawnLength_31 (by decide) ?_
        have h := ih (rn d - (j + 1)) (by omega) (j + 1) rfl (by omega)
        first | (rw [show sumW d (j + 1) = sumW d j from by simp [sumW, i32_not_lt.mpr h17]] at h; exact h) | (rw [show sumW d (j + 1) = sumW d j + vLen d (nI j) from by simp [sumW, i32_not_le.mp h17]] at h; exact h)
      · refine k_iload_n 20 21 C dX1_drawnLength_20 rfl 1 rfl ?_
        refine k_aload_n 21 22 C dX1_drawnLength_21 rfl 2 rfl ?_
        refine k_iload_n 22 23 C dX1_drawnLength_22 rfl 0 rfl ?_
        refine k_callVI 23 26 C [_] [_] dX1_drawnLength_23 rfl (ct_X1_lineLength ‹_› ‹_›) mi_X1_lineLength ml_X1_88 im_X1_lineLength se_X1_lineLength ci_X1 (IsDrw.o ‹_›) rfl rfl ⟨Nat.le_of_ble_eq_true rfl, Nat.le_of_ble_eq_true rfl⟩ (Nat.le_of_ble_eq_true rfl) (Nat.zero_le _) (Nat.zero_le _) (fun r23 V23 p23 => ?_)
        obtain ⟨rfl, rfl⟩ := And.intro p23.1.symm p23.2
        refine k_iadd 26 27 C dX1_drawnLength_26 rfl  ?_
        refine k_istore_n 27 28 C [(1, _), (2, _), (0, _)] dX1_drawnLength_27 rfl (by decide) rfl ?_
        refine k_iinc 28 31 C [(2, _), (1, _), (0, _)] (nI (j + 1)) dX1_drawnLength_28 rfl 1 rfl (nI_1 j) (by decide) rfl ?_
        refine k_goto 31 4 C dX1_drawnLength_31 (by decide) ?_
        have h := ih (rn d - (j + 1)) (by omega) (j + 1) rfl (by omega)
        first | (rw [show sumW d (j + 1) = sumW d j from by simp [sumW, i32_not_lt.mpr h17]] at h; exact h) | (rw [show sumW d (j + 1) = sumW d j + vLen d (nI j) from by simp [sumW, i32_not_le.mp h17]] at h; exact h)
  refine k_iconst 0 1 C dX1_drawnLength_0 rfl (v := 0) rfl ?_
  refine k_istore_n 1 2 C [(1, _), (0, _)] dX1_drawnLength_1 rfl (by decide) rfl ?_
  refine k_iconst 2 3 C dX1_drawnLength_2 rfl (v := 0) rfl ?_
  refine k_istore_n 3 4 C [(2, _), (1, _), (0, _)] dX1_drawnLength_3 rfl (by decide) rfl ?_
  exact loop4 _ 0 rfl (Nat.zero_le _)
set_option maxHeartbeats 4000000 in
set_option maxRecDepth 100000 in
theorem ct_X1_greatestWidth {E : gE} {T : gT} {l : Launch} {V : gV} {a : Nat} {d : Dr} (ha : IsDrw T a) (hd : DV V a d) : CtI E T l yX1_greatestWidth (gw yX1_greatestWidth cX1_greatestWidth 3 (some .int)) { frames := 3, cells := 0, slots := 0, locals := 63 } [.ref a] V (fun (r : Int32) (V' : gV) => V' = V ∧ r = maxW d (rn d)) := by
  refine ctI_of (L := [(0, .ref a)]) (by decide) rfl (Nat.le_of_ble_eq_true rfl) rfl (fun p e s m args below meth c C => ?_)
  have loop4 : ∀ (f : Nat) (j : Nat), rn d - j = f → (j ≤ rn d) → KW E T V p l e { frames := 3, cells := 0, slots := 0, locals := 63 } s m args below meth c 3 0 0 (MQ below (va_Qi (fun (r : Int32) (V' : gV) => V' = V ∧ r = maxW d (rn d)) (RepS E T) (gA E)) args s 0 0 (gA E)) 4 [(2, .int (nI j)), (1, .int (maxW d j)), (0, .ref a)] [] := by
    intro f
    induction f using Nat.strongRecOn with
    | _ f ih =>
    intro j hf hj
    refine k_iload_n 4 5 C dX1_greatestWidth_4 rfl 0 rfl ?_
    refine k_aload_n 5 6 C dX1_greatestWidth_5 rfl 2 rfl ?_
    refine k_get 6 9 C dX1_greatestWidth_6 rfl ci_X1 7 fl_X1_34 (IsDrw.o ‹_›) (by decide) rfl ?_
    refine k_rwI (hd.f7) ?_
    refine k_icmp_ge 9 28 12 C dX1_greatestWidth_9 (by decide) rfl (fun h9 => ?_) (fun h9 => ?_)
    · rw [n20 hd.le (Nat.le_trans hj hd.le)] at h9
      obtain rfl : j = rn d := by omega
      refine k_iload_n 28 29 C dX1_greatestWidth_28 rfl 1 rfl ?_
      refine k_iret 29 C dX1_greatestWidth_29 rfl ?_
      exact ⟨rfl, rfl⟩
    · rw [n20 hd.le (Nat.le_trans hj hd.le)] at h9
      refine k_iload_n 12 13 C dX1_greatestWidth_12 rfl 1 rfl ?_
      refine k_aload_n 13 14 C dX1_greatestWidth_13 rfl 2 rfl ?_
      refine k_iload_n 14 15 C dX1_greatestWidth_14 rfl 0 rfl ?_
      refine k_callVI 15 18 C [_] [_] dX1_greatestWidth_15 rfl (ct_X1_width ‹_› ‹_›) mi_X1_width ml_X1_85 im_X1_width se_X1_width ci_X1 (IsDrw.o ‹_›) rfl rfl ⟨Nat.le_of_ble_eq_true rfl, Nat.le_of_ble_eq_true rfl⟩ (Nat.le_of_ble_eq_true rfl) (Nat.zero_le _) (Nat.zero_le _) (fun r15 V15 p15 => ?_)
      obtain ⟨rfl, rfl⟩ := And.intro p15.1.symm p15.2
      refine k_max 18 21 C dX1_greatestWidth_18 rfl ml_X1_71 (Nat.le_of_ble_eq_true rfl) (Nat.le_of_ble_eq_true rfl) (Nat.zero_le _) (Nat.zero_le _) ?_
      refine k_istore_n 21 22 C [(1, _), (2, _), (0, _)] dX1_greatestWidth_21 rfl (by decide) rfl ?_
      refine k_iinc 22 25 C [(2, _), (1, _), (0, _)] (nI (j + 1)) dX1_greatestWidth_22 rfl 1 rfl (nI_1 j) (by decide) rfl ?_
      refine k_goto 25 4 C dX1_greatestWidth_25 (by decide) ?_
      exact ih (rn d - (j + 1)) (by omega) (j + 1) rfl (by omega)
  refine k_iconst 0 1 C dX1_greatestWidth_0 rfl (v := 0) rfl ?_
  refine k_istore_n 1 2 C [(1, _), (0, _)] dX1_greatestWidth_1 rfl (by decide) rfl ?_
  refine k_iconst 2 3 C dX1_greatestWidth_2 rfl (v := 0) rfl ?_
  refine k_istore_n 3 4 C [(2, _), (1, _), (0, _)] dX1_greatestWidth_3 rfl (by decide) rfl ?_
  exact loop4 _ 0 rfl (Nat.zero_le _)
def dBegin (p : Int32) (sc pt : Int64) : Dr := (p, sc, pt, 1, 1, 0, 0, 0, fun _ => 0, fun _ => 0, fun _ => 0)
def dAdd (d : Dr) (x y : Int64) (l : Int32) : Dr := (rpa d, rsc d, rpt d, rsx d, rsy d, rhx d, rhy d, rn d + 1, va_up (rX d) (rn d) x, va_up (rY d) (rn d) y, va_up (rl d) (rn d) (if rn d = 0 then -1 else l))
def dLine (d : Dr) (j : Nat) (v : Int32) : Dr := (rpa d, rsc d, rpt d, rsx d, rsy d, rhx d, rhy d, rn d, rX d, rY d, va_up (rl d) j v)
theorem DV.line {V : gV} {a : Nat} {d : Dr} (hd : DV V a d) (j : Nat) (v : Int32) : DV (wI V (a + 3) j v) a (dLine d j v) := by
  obtain ⟨h0, h1, h2, h3, h4, h5, h6, h7, h8, h9⟩ := hd
  have e : ∀ k, (wI V (a + 3) j v).1 a k = V.1 a k := fun k => by simp [wI]
  refine ⟨(e 0).trans h0, h1, h2, (e 3).trans h3, (e 4).trans h4, h5, h6, (e 7).trans h7, h8, fun i hi => ⟨(h9 i hi).1, (h9 i hi).2.1, ?_⟩⟩
  have h10 := (h9 i hi).2.2
  by_cases hj : i = j
  · subst hj; simp [wI, upd, rl, dLine, va_up]
  · simp only [wI, upd, rl, dLine, va_up, if_true, hj, if_false]; exact h10
theorem DV.add {V : gV} {a : Nat} {d : Dr} (hd : DV V a d) (hn : rn d < 20) (x y : Int64) (l : Int32) : DV (wI (wI (wL (wL V (a + 1) (rn d) x) (a + 2) (rn d) y) (a + 3) (rn d) (if rn d = 0 then -1 else l)) a 7 (nI (rn d + 1))) a (dAdd d x y l) := by
  obtain ⟨h0, h1, h2, h3, h4, h5, h6, h7, h8, h9⟩ := hd
  refine ⟨?_, ?_, ?_, ?_, ?_, ?_, ?_, ?_, ?_, fun i hi => ?_⟩
  · simp [wI, wL, upd, rpa, dAdd]; exact h0
  · simp [wI, wL, rsc, dAdd]; exact h1
  · simp [wI, wL, rpt, dAdd]; exact h2
  · simp [wI, wL, upd, rsx, dAdd]; exact h3
  · simp [wI, wL, upd, rsy, dAdd]; exact h4
  · simp [wI, wL, rhx, dAdd]; exact h5
  · simp [wI, wL, rhy, dAdd]; exact h6
  · simp [wI, upd, rn, dAdd]
  · show rn d + 1 ≤ 20; omega
  · have hi' : i < rn d + 1 := hi
    by_cases hj : i = rn d
    · subst hj; simp [wI, wL, upd, vp_updL, rX, rY, rl, dAdd, va_up]
    · have h10 := h9 i (by omega)
      simp only [wI, wL, upd, vp_updL, rX, rY, rl, dAdd, va_up, hj, if_false, if_true, show ¬ a + 1 = a from by omega, show ¬ a + 3 = a from by omega, show ¬ a + 1 = a + 2 from by omega, show ¬ a + 2 = a + 1 from by omega]
      exact h10
theorem DV.begin {V : gV} {a : Nat} {p : Int32} {sc pt : Int64} : DV (wI (wL (wL (wI (wI (wL (wL (wI V a 0 p) a 1 sc) a 2 pt) a 3 1) a 4 1) a 5 0) a 6 0) a 7 0) a (dBegin p sc pt) := by
  refine ⟨?_, ?_, ?_, ?_, ?_, ?_, ?_, ?_, ?_, fun i hi => absurd hi (Nat.not_lt_zero i)⟩ <;> simp [wI, wL, upd, vp_updL, rpa, rsc, rpt, rsx, rsy, rhx, rhy, rn, dBegin, nI]
set_option maxHeartbeats 4000000 in
set_option maxRecDepth 100000 in
theorem ct_X1_changeLine {E : gE} {T : gT} {l : Launch} {V : gV} {j : Nat} {v : Int32} {a : Nat} {d : Dr} (ha : IsDrw T a) (hd : DV V a d) (hj : j < rn d) : CtV E T l yX1_changeLine (gw yX1_changeLine cX1_changeLine 3 none) { frames := 1, cells := 0, slots := 0, locals := 21 } [.ref a, .int (nI j), .int v] V (fun (V' : gV) => DV V' a (dLine d j v) ∧ Off V V' a (a + 4)) := by
  refine ctV_of (L := [(0, .ref a), (1, .int (nI j)), (2, .int v)]) (by decide) rfl (Nat.le_of_ble_eq_true rfl) rfl (fun p e s m args below meth c C => ?_)
  refine k_aload_n 0 1 C dX1_changeLine_0 rfl 0 rfl ?_
  refine k_iload_n 1 2 C dX1_changeLine_1 rfl 1 rfl ?_
  refine k_callVI 2 5 C [_] [] dX1_changeLine_2 rfl (ct_X1_has ‹_› ‹_›) mi_X1_has ml_X1_67 im_X1_has se_X1_has ci_X1 (IsDrw.o ‹_›) rfl rfl ⟨Nat.le_of_ble_eq_true rfl, Nat.le_of_ble_eq_true rfl⟩ (Nat.le_of_ble_eq_true rfl) (Nat.zero_le _) (Nat.zero_le _) (fun r2 V2 p2 => ?_)
  obtain ⟨rfl, rfl⟩ := And.intro p2.1.symm p2.2
  refine k_ifb_eq 5 24 8 C dX1_changeLine_5 (by decide) rfl (fun h5 => ?_) (fun h5 => ?_)
  · exact absurd ⟨nI_pos (by have := hd.le; omega), by rw [n20 hd.le (by have := hd.le; omega)]; omega⟩ h5
  · refine k_iload_n 8 9 C dX1_changeLine_8 rfl 1 rfl ?_
    refine k_aload_n 9 10 C dX1_changeLine_9 rfl 0 rfl ?_
    refine k_getF 10 13 C dX1_changeLine_10 rfl ci_X1 10 fl_X1_44 (IsDrw.o ‹_›) (by decide) (IsDrw.f10 ‹_›) rfl ?_
    refine k_alen 13 14 C dX1_changeLine_13 rfl (IsDrw.a10 ‹_›) (by decide) (v := 20) rfl ?_
    refine k_icmp_ge 14 24 17 C dX1_changeLine_14 (by decide) rfl (fun h14 => ?_) (fun h14 => ?_)
    · exact absurd h14 (v_idx hd.le h5).2
    · refine k_aload_n 17 18 C dX1_changeLine_17 rfl 0 rfl ?_
      refine k_getF 18 21 C dX1_changeLine_18 rfl ci_X1 10 fl_X1_44 (IsDrw.o ‹_›) (by decide) (IsDrw.f10 ‹_›) rfl ?_
      refine k_iload_n 21 22 C dX1_changeLine_21 rfl 1 rfl ?_
      refine k_iload_n 22 23 C dX1_changeLine_22 rfl 2 rfl ?_
      refine k_iast 23 24 C dX1_changeLine_23 rfl (IsDrw.a10 ‹_›) (vp_in_nI (by have := hd.le; omega) (by decide)) ?_
      rw [nI_clamp (by have := hd.le; omega)]
      refine k_vret 24 C dX1_changeLine_24 rfl ?_
      exact ⟨hd.line j v, by repeat (first | exact Off.rf | refine Off.wI ?_ (by omega) (by omega) | refine Off.wL ?_ (by omega) (by omega) | refine Off.wR ?_ (by omega) (by omega))⟩
set_option maxHeartbeats 4000000 in
set_option maxRecDepth 100000 in
theorem ct_X1_begin {E : gE} {T : gT} {l : Launch} {V : gV} {a : Nat} {pa : Int32} {sc pt : Int64} (ha : IsDrw T a) : CtV E T l yX1_begin (gw yX1_begin cX1_begin 6 none) { frames := 0, cells := 0, slots := 0, locals := 0 } [.ref a, .int pa, .long sc, .long pt] V (fun (V' : gV) => DV V' a (dBegin pa sc pt) ∧ Off V V' a (a + 4)) := by
  refine ctV_of (L := [(0, .ref a), (1, .int pa), (2, .long sc), (4, .long pt)]) (by decide) rfl (Nat.le_of_ble_eq_true rfl) rfl (fun p e s m args below meth c C => ?_)
  refine k_aload_n 0 1 C dX1_begin_0 rfl 0 rfl ?_
  refine k_iload_n 1 2 C dX1_begin_1 rfl 1 rfl ?_
  refine k_put 2 5 C dX1_begin_2 rfl ci_X1 0 fl_X1_9 (IsDrw.o ‹_›) (by decide) rfl rfl rfl wI_off (ps_1_0 _ _ _ _) ?_
  refine k_aload_n 5 6 C dX1_begin_5 rfl 0 rfl ?_
  refine k_lload_n 6 7 C dX1_begin_6 rfl 2 rfl ?_
  refine k_put 7 10 C dX1_begin_7 rfl ci_X1 1 fl_X1_15 (IsDrw.o ‹_›) (by decide) rfl rfl rfl wL_off (ps_1_1 _ _ _ _) ?_
  refine k_aload_n 10 11 C dX1_begin_10 rfl 0 rfl ?_
  refine k_lload 11 13 C dX1_begin_11 rfl 3 rfl ?_
  refine k_put 13 16 C dX1_begin_13 rfl ci_X1 2 fl_X1_19 (IsDrw.o ‹_›) (by decide) rfl rfl rfl wL_off (ps_1_2 _ _ _ _) ?_
  refine k_aload_n 16 17 C dX1_begin_16 rfl 0 rfl ?_
  refine k_iconst 17 18 C dX1_begin_17 rfl (v := 1) rfl ?_
  refine k_put 18 21 C dX1_begin_18 rfl ci_X1 3 fl_X1_22 (IsDrw.o ‹_›) (by decide) rfl rfl rfl wI_off (ps_1_3 _ _ _ _) ?_
  refine k_aload_n 21 22 C dX1_begin_21 rfl 0 rfl ?_
  refine k_iconst 22 23 C dX1_begin_22 rfl (v := 1) rfl ?_
  refine k_put 23 26 C dX1_begin_23 rfl ci_X1 4 fl_X1_25 (IsDrw.o ‹_›) (by decide) rfl rfl rfl wI_off (ps_1_4 _ _ _ _) ?_
  refine k_aload_n 26 27 C dX1_begin_26 rfl 0 rfl ?_
  refine k_lconst 27 28 C dX1_begin_27 rfl (v := 0) rfl ?_
  refine k_put 28 31 C dX1_begin_28 rfl ci_X1 5 fl_X1_28 (IsDrw.o ‹_›) (by decide) rfl rfl rfl wL_off (ps_1_5 _ _ _ _) ?_
  refine k_aload_n 31 32 C dX1_begin_31 rfl 0 rfl ?_
  refine k_lconst 32 33 C dX1_begin_32 rfl (v := 0) rfl ?_
  refine k_put 33 36 C dX1_begin_33 rfl ci_X1 6 fl_X1_31 (IsDrw.o ‹_›) (by decide) rfl rfl rfl wL_off (ps_1_6 _ _ _ _) ?_
  refine k_aload_n 36 37 C dX1_begin_36 rfl 0 rfl ?_
  refine k_iconst 37 38 C dX1_begin_37 rfl (v := 0) rfl ?_
  refine k_put 38 41 C dX1_begin_38 rfl ci_X1 7 fl_X1_34 (IsDrw.o ‹_›) (by decide) rfl rfl rfl wI_off (ps_1_7 _ _ _ _) ?_
  refine k_vret 41 C dX1_begin_41 rfl ?_
  exact ⟨DV.begin, by repeat (first | exact Off.rf | refine Off.wI ?_ (by omega) (by omega) | refine Off.wL ?_ (by omega) (by omega) | refine Off.wR ?_ (by omega) (by omega))⟩
theorem v_size {n : Nat} (hn : n < 20) : ¬ (20 : Int32) ≤ nI n := fun z => by
  have z' : nI 20 ≤ nI n := z
  rw [nI_leI (by omega) (by omega)] at z'
  omega
set_option maxHeartbeats 4000000 in
set_option maxRecDepth 100000 in
theorem ct_X1_add {E : gE} {T : gT} {l : Launch} {V : gV} {x y : Int64} {v : Int32} {a : Nat} {d : Dr} (ha : IsDrw T a) (hd : DV V a d) (hn : rn d < 20) : CtV E T l yX1_add (gw yX1_add cX1_add 6 none) { frames := 0, cells := 0, slots := 0, locals := 0 } [.ref a, .long x, .long y, .int v] V (fun (V' : gV) => DV V' a (dAdd d x y v) ∧ Off V V' a (a + 4)) := by
  refine ctV_of (L := [(0, .ref a), (1, .long x), (3, .long y), (5, .int v)]) (by decide) rfl (Nat.le_of_ble_eq_true rfl) rfl (fun p e s m args below meth c C => ?_)
  refine k_aload_n 0 1 C dX1_add_0 rfl 0 rfl ?_
  refine k_get 1 4 C dX1_add_1 rfl ci_X1 7 fl_X1_34 (IsDrw.o ‹_›) (by decide) rfl ?_
  refine k_rwI (hd.f7) ?_
  refine k_if_lt 4 95 7 C dX1_add_4 (by decide) rfl (fun h4 => ?_) (fun h4 => ?_)
  · exact absurd h4 (nI_pos (by omega))
  · refine k_aload_n 7 8 C dX1_add_7 rfl 0 rfl ?_
    refine k_get 8 11 C dX1_add_8 rfl ci_X1 7 fl_X1_34 (IsDrw.o ‹_›) (by decide) rfl ?_
    refine k_rwI (hd.f7) ?_
    refine k_aload_n 11 12 C dX1_add_11 rfl 0 rfl ?_
    refine k_getF 12 15 C dX1_add_12 rfl ci_X1 8 fl_X1_37 (IsDrw.o ‹_›) (by decide) (IsDrw.f8 ‹_›) rfl ?_
    refine k_alen 15 16 C dX1_add_15 rfl (IsDrw.a8 ‹_›) (by decide) (v := 20) rfl ?_
    refine k_icmp_ge 16 95 19 C dX1_add_16 (by decide) rfl (fun h16 => ?_) (fun h16 => ?_)
    · exact absurd h16 (v_size hn)
    · refine k_aload_n 19 20 C dX1_add_19 rfl 0 rfl ?_
      refine k_get 20 23 C dX1_add_20 rfl ci_X1 7 fl_X1_34 (IsDrw.o ‹_›) (by decide) rfl ?_
      refine k_rwI (hd.f7) ?_
      refine k_aload_n 23 24 C dX1_add_23 rfl 0 rfl ?_
      refine k_getF 24 27 C dX1_add_24 rfl ci_X1 9 fl_X1_41 (IsDrw.o ‹_›) (by decide) (IsDrw.f9 ‹_›) rfl ?_
      refine k_alen 27 28 C dX1_add_27 rfl (IsDrw.a9 ‹_›) (by decide) (v := 20) rfl ?_
      refine k_icmp_ge 28 95 31 C dX1_add_28 (by decide) rfl (fun h28 => ?_) (fun h28 => ?_)
      · exact absurd h28 (v_size hn)
      · refine k_aload_n 31 32 C dX1_add_31 rfl 0 rfl ?_
        refine k_get 32 35 C dX1_add_32 rfl ci_X1 7 fl_X1_34 (IsDrw.o ‹_›) (by decide) rfl ?_
        refine k_rwI (hd.f7) ?_
        refine k_aload_n 35 36 C dX1_add_35 rfl 0 rfl ?_
        refine k_getF 36 39 C dX1_add_36 rfl ci_X1 10 fl_X1_44 (IsDrw.o ‹_›) (by decide) (IsDrw.f10 ‹_›) rfl ?_
        refine k_alen 39 40 C dX1_add_39 rfl (IsDrw.a10 ‹_›) (by decide) (v := 20) rfl ?_
        refine k_icmp_ge 40 95 43 C dX1_add_40 (by decide) rfl (fun h40 => ?_) (fun h40 => ?_)
        · exact absurd h40 (v_size hn)
        · refine k_aload_n 43 44 C dX1_add_43 rfl 0 rfl ?_
          refine k_getF 44 47 C dX1_add_44 rfl ci_X1 8 fl_X1_37 (IsDrw.o ‹_›) (by decide) (IsDrw.f8 ‹_›) rfl ?_
          refine k_aload_n 47 48 C dX1_add_47 rfl 0 rfl ?_
          refine k_get 48 51 C dX1_add_48 rfl ci_X1 7 fl_X1_34 (IsDrw.o ‹_›) (by decide) rfl ?_
          refine k_rwI (hd.f7) ?_
          refine k_lload_n 51 52 C dX1_add_51 rfl 1 rfl ?_
          refine k_last 52 53 C dX1_add_52 rfl (IsDrw.a8 ‹_›) (vp_in_nI hn (by decide)) ?_
          rw [nI_clamp (show rn d < 2 ^ 31 by omega)]
          refine k_aload_n 53 54 C dX1_add_53 rfl 0 rfl ?_
          refine k_getF 54 57 C dX1_add_54 rfl ci_X1 9 fl_X1_41 (IsDrw.o ‹_›) (by decide) (IsDrw.f9 ‹_›) rfl ?_
          refine k_aload_n 57 58 C dX1_add_57 rfl 0 rfl ?_
          refine k_get 58 61 C dX1_add_58 rfl ci_X1 7 fl_X1_34 (IsDrw.o ‹_›) (by decide) rfl ?_
          refine k_rwI (hd.f7) ?_
          refine k_lload_n 61 62 C dX1_add_61 rfl 2 rfl ?_
          refine k_last 62 63 C dX1_add_62 rfl (IsDrw.a9 ‹_›) (vp_in_nI hn (by decide)) ?_
          rw [nI_clamp (show rn d < 2 ^ 31 by omega)]
          refine k_aload_n 63 64 C dX1_add_63 rfl 0 rfl ?_
          refine k_getF 64 67 C dX1_add_64 rfl ci_X1 10 fl_X1_44 (IsDrw.o ‹_›) (by decide) (IsDrw.f10 ‹_›) rfl ?_
          refine k_aload_n 67 68 C dX1_add_67 rfl 0 rfl ?_
          refine k_get 68 71 C dX1_add_68 rfl ci_X1 7 fl_X1_34 (IsDrw.o ‹_›) (by decide) rfl ?_
          refine k_rwI (hd.f7) ?_
          refine k_aload_n 71 72 C dX1_add_71 rfl 0 rfl ?_
          refine k_get 72 75 C dX1_add_72 rfl ci_X1 7 fl_X1_34 (IsDrw.o ‹_›) (by decide) rfl ?_
          refine k_rwI (hd.f7) ?_
          refine k_if_ne 75 82 78 C dX1_add_75 (by decide) rfl (fun h75 => ?_) (fun h75 => ?_)
          · have hz : ¬ rn d = 0 := fun z => h75 (by rw [z]; rfl)
            refine k_iload 82 84 C dX1_add_82 rfl 3 rfl ?_
            refine k_iast 84 85 C dX1_add_84 rfl (IsDrw.a10 ‹_›) (vp_in_nI hn (by decide)) ?_
            rw [nI_clamp (show rn d < 2 ^ 31 by omega)]
            refine k_aload_n 85 86 C dX1_add_85 rfl 0 rfl ?_
            refine k_dup 86 87 C dX1_add_86 rfl rfl ?_
            refine k_get 87 90 C dX1_add_87 rfl ci_X1 7 fl_X1_34 (IsDrw.o ‹_›) (by decide) rfl ?_
            refine k_rwI (y := nI (rn d)) (by simp [wI, wL]; exact hd.f7) ?_
            refine k_iconst 90 91 C dX1_add_90 rfl (v := 1) rfl ?_
            refine k_iadd 91 92 C dX1_add_91 rfl  ?_
            refine k_put 92 95 C dX1_add_92 rfl ci_X1 7 fl_X1_34 (IsDrw.o ‹_›) (by decide) rfl rfl rfl wI_off (ps_1_7 _ _ _ _) ?_
            refine k_vret 95 C dX1_add_95 rfl ?_
            refine ⟨?_, by repeat (first | exact Off.rf | refine Off.wI ?_ (by omega) (by omega) | refine Off.wL ?_ (by omega) (by omega) | refine Off.wR ?_ (by omega) (by omega))⟩
            have h := hd.add hn x y v
            rw [← nI_1] at h
            simp only [hz, if_true, if_false] at h
            first | exact h | (simp only [hz] ; exact h)
          · have hz : rn d = 0 := (nI_eq (by omega) (by decide)).mp (h75 : nI (rn d) = nI 0)
            refine k_iconst 78 79 C dX1_add_78 rfl (v := (-1)) rfl ?_
            refine k_goto 79 84 C dX1_add_79 (by decide) ?_
            refine k_iast 84 85 C dX1_add_84 rfl (IsDrw.a10 ‹_›) (vp_in_nI hn (by decide)) ?_
            rw [nI_clamp (show rn d < 2 ^ 31 by omega)]
            refine k_aload_n 85 86 C dX1_add_85 rfl 0 rfl ?_
            refine k_dup 86 87 C dX1_add_86 rfl rfl ?_
            refine k_get 87 90 C dX1_add_87 rfl ci_X1 7 fl_X1_34 (IsDrw.o ‹_›) (by decide) rfl ?_
            refine k_rwI (y := nI (rn d)) (by simp [wI, wL]; exact hd.f7) ?_
            refine k_iconst 90 91 C dX1_add_90 rfl (v := 1) rfl ?_
            refine k_iadd 91 92 C dX1_add_91 rfl  ?_
            refine k_put 92 95 C dX1_add_92 rfl ci_X1 7 fl_X1_34 (IsDrw.o ‹_›) (by decide) rfl rfl rfl wI_off (ps_1_7 _ _ _ _) ?_
            refine k_vret 95 C dX1_add_95 rfl ?_
            refine ⟨?_, by repeat (first | exact Off.rf | refine Off.wI ?_ (by omega) (by omega) | refine Off.wL ?_ (by omega) (by omega) | refine Off.wR ?_ (by omega) (by omega))⟩
            have h := hd.add hn x y v
            rw [← nI_1] at h
            simp only [hz, if_true, if_false] at h
            first | exact h | (simp only [hz] ; exact h)
end
section
def gd : Nat → Int64 → Int64 → Int64
  | 0, a, _ => a
  | k + 1, a, b => if b ≤ 0 then a else gd k b (a - a / b * b)
def lowL (num den : Int64) (part : Int32) : Int64 := if gd 100 (absl num) den ≤ 1 then (if part = 0 then num else den) else (if part = 0 then num else den) / gd 100 (absl num) den
def tfn (d : Dr) : Nat → Bool
  | 0 => false
  | j + 1 => tfn d j || (decide (100000 < lowL (vX d (nI j)) (rpt d) 1) || decide (100000 < lowL (vY d (nI j)) (rpt d) 1))
def tooF (d : Dr) : Bool := decide (100000 < lowL (rsc d) (rpt d) 0) || (decide (100000 < lowL (rsc d) (rpt d) 1) || tfn d (rn d))
theorem tfn_mono {d : Dr} {j : Nat} : ∀ {n : Nat}, j ≤ n → tfn d j = true → tfn d n = true
  | 0, h, h2 => by rw [show j = 0 by omega] at h2; exact h2
  | n + 1, h, h2 => by
    by_cases e : j = n + 1
    · rw [e] at h2; exact h2
    · have h3 := tfn_mono (d := d) (n := n) (by omega) h2
      simp [tfn, h3]
theorem tfn_step {d : Dr} {j : Nat} (hj : j < rn d) (h : 100000 < lowL (vX d (nI j)) (rpt d) 1 ∨ 100000 < lowL (vY d (nI j)) (rpt d) 1) : tfn d (rn d) = true := by
  refine tfn_mono (j := j + 1) (by omega) ?_
  rcases h with h | h <;> simp [tfn, h]
def dW (d : Dr) : Prop := 0 < rn d → rl d 0 = -1
def dTake (d : Dr) (j : Nat) : Dr := (rpa d, rsc d, rpt d, rsx d, rsy d, rhx d, rhy d, j, rX d, rY d, rl d)
theorem DV.to {V : gV} {a : Nat} {d d' : Dr} (h : DV V a d) (e0 : rpa d = rpa d') (e1 : rsc d = rsc d') (e2 : rpt d = rpt d') (e3 : rsx d = rsx d') (e4 : rsy d = rsy d') (e5 : rhx d = rhx d') (e6 : rhy d = rhy d') (e7 : rn d = rn d') (e8 : ∀ i, i < rn d' → rX d i = rX d' i ∧ rY d i = rY d' i ∧ rl d i = rl d' i) : DV V a d' := by
  obtain ⟨h0, h1, h2, h3, h4, h5, h6, h7, h8, h9⟩ := h
  refine ⟨h0.trans e0, h1.trans e1, h2.trans e2, h3.trans e3, h4.trans e4, h5.trans e5, h6.trans e6, h7.trans (by rw [e7]), e7 ▸ h8, fun i hi => ?_⟩
  obtain ⟨g1, g2, g3⟩ := h9 i (by omega)
  obtain ⟨k1, k2, k3⟩ := e8 i hi
  exact ⟨g1.trans k1, g2.trans k2, g3.trans k3⟩
set_option maxHeartbeats 4000000 in
set_option maxRecDepth 100000 in
theorem ct_X3_greatestDivisor {E : gE} {T : gT} {l : Launch} {V : gV} {a b : Int64} : CtL E T l yX3_greatestDivisor (gw yX3_greatestDivisor cX3_greatestDivisor 11 (some .long)) { frames := 0, cells := 0, slots := 0, locals := 0 } [.long a, .long b] V (fun (r : Int64) (V' : gV) => V' = V ∧ r = gd 100 a b) := by
  refine ctL_of (L := [(0, .long a), (2, .long b)]) (by decide) rfl (Nat.le_of_ble_eq_true rfl) rfl (fun p e s m args below meth c C => ?_)
  have loop9 : ∀ (f : Nat) (i : Nat) (x y : Int64), 100 - i = f → (i ≤ 100) → (gd (100 - i) x y = gd 100 a b) → KW E T V p l e { frames := 0, cells := 0, slots := 0, locals := 0 } s m args below meth c 11 0 0 (MQ below (va_Ql (fun (r : Int64) (V' : gV) => V' = V ∧ r = gd 100 a b) (RepS E T) (gA E)) args s 0 0 (gA E)) 9 [(8, .int (nI i)), (6, .long y), (4, .long x), (0, .long a), (2, .long b)] [] := by
    intro f
    induction f using Nat.strongRecOn with
    | _ f ih =>
    intro i x y hf hi hg
    refine k_iload 9 11 C dX3_greatestDivisor_9 rfl 0 rfl ?_
    refine k_bipush 11 13 C dX3_greatestDivisor_11 rfl (v := 100) rfl ?_
    refine k_icmp_ge 13 44 16 C dX3_greatestDivisor_13 (by decide) rfl (fun h13 => ?_) (fun h13 => ?_)
    · have h13 : nI 100 ≤ nI i := h13
      rw [nI_leI (by omega) (by omega)] at h13
      obtain rfl : i = 100 := by omega
      refine k_lload 44 46 C dX3_greatestDivisor_44 rfl 2 rfl ?_
      refine k_lret 46 C dX3_greatestDivisor_46 rfl ?_
      exact ⟨rfl, by rw [← hg]; first | rfl | (rw [show 100 - i = (100 - (i + 1)) + 1 by omega]; simp only [gd]; rw [if_pos h20])⟩
    · have h13 : ¬ nI 100 ≤ nI i := h13
      rw [nI_leI (by omega) (by omega)] at h13
      refine k_lload 16 18 C dX3_greatestDivisor_16 rfl 1 rfl ?_
      refine k_lconst 18 19 C dX3_greatestDivisor_18 rfl (v := 0) rfl ?_
      refine k_lcmp_le 19 20 44 23 C dX3_greatestDivisor_19 rfl dX3_greatestDivisor_20 (by decide) rfl (fun h20 => ?_) (fun h20 => ?_)
      · refine k_lload 44 46 C dX3_greatestDivisor_44 rfl 2 rfl ?_
        refine k_lret 46 C dX3_greatestDivisor_46 rfl ?_
        exact ⟨rfl, by rw [← hg]; first | rfl | (rw [show 100 - i = (100 - (i + 1)) + 1 by omega]; simp only [gd]; rw [if_pos h20])⟩
      · have h19 : ¬ y ≤ 0 := h20
        refine k_lload 23 25 C dX3_greatestDivisor_23 rfl 2 rfl ?_
        refine k_lload 25 27 C dX3_greatestDivisor_25 rfl 1 rfl ?_
        refine k_lrem 27 28 C dX3_greatestDivisor_27 rfl (fun z => h20 (by rw [z]; decide)) ?_
        refine k_lstore 28 30 C [(9, _), (8, _), (6, _), (4, _), (0, _), (2, _)] dX3_greatestDivisor_28 rfl (by decide) rfl ?_
        refine k_lload 30 32 C dX3_greatestDivisor_30 rfl 2 rfl ?_
        refine k_lstore 32 34 C [(4, _), (9, _), (8, _), (6, _), (0, _), (2, _)] dX3_greatestDivisor_32 rfl (by decide) rfl ?_
        refine k_lload 34 36 C dX3_greatestDivisor_34 rfl 1 rfl ?_
        refine k_lstore 36 38 C [(6, _), (4, _), (9, _), (8, _), (0, _), (2, _)] dX3_greatestDivisor_36 rfl (by decide) rfl ?_
        refine k_iinc 38 41 C [(8, _), (6, _), (4, _), (9, _), (0, _), (2, _)] (nI (i + 1)) dX3_greatestDivisor_38 rfl 3 rfl (nI_1 i) (by decide) rfl ?_
        refine k_goto 41 9 C dX3_greatestDivisor_41 (by decide) ?_
        refine k_perm [0, 1, 2, 4, 5] (L' := [(8, _), (6, _), (4, _), (0, _), (2, _)]) rfl ?_
        exact ih (100 - (i + 1)) (by omega) (i + 1) _ _ rfl (by omega) (by rw [← hg, show 100 - i = (100 - (i + 1)) + 1 by omega]; simp only [gd]; rw [if_neg h19])
  refine k_lload_n 0 1 C dX3_greatestDivisor_0 rfl 0 rfl ?_
  refine k_lstore 1 3 C [(4, _), (0, _), (2, _)] dX3_greatestDivisor_1 rfl (by decide) rfl ?_
  refine k_lload_n 3 4 C dX3_greatestDivisor_3 rfl 2 rfl ?_
  refine k_lstore 4 6 C [(6, _), (4, _), (0, _), (2, _)] dX3_greatestDivisor_4 rfl (by decide) rfl ?_
  refine k_iconst 6 7 C dX3_greatestDivisor_6 rfl (v := 0) rfl ?_
  refine k_istore 7 9 C [(8, _), (6, _), (4, _), (0, _), (2, _)] dX3_greatestDivisor_7 rfl (by decide) rfl ?_
  exact loop9 _ 0 a b rfl (Nat.zero_le _) rfl
set_option maxHeartbeats 4000000 in
set_option maxRecDepth 100000 in
theorem ct_X3_lowest {E : gE} {T : gT} {l : Launch} {V : gV} {a b : Int64} {c0 : Int32} : CtL E T l yX3_lowest (gw yX3_lowest cX3_lowest 9 (some .long)) { frames := 1, cells := 0, slots := 0, locals := 30 } [.long a, .long b, .int c0] V (fun (r : Int64) (V' : gV) => V' = V ∧ r = lowL a b c0) := by
  refine ctL_of (L := [(0, .long a), (2, .long b), (4, .int c0)]) (by decide) rfl (Nat.le_of_ble_eq_true rfl) rfl (fun p e s m args below meth c C => ?_)
  refine k_iload 0 2 C dX3_lowest_0 rfl 2 rfl ?_
  refine k_if_ne 2 9 5 C dX3_lowest_2 (by decide) rfl (fun h2 => ?_) (fun h2 => ?_)
  · refine k_lload_n 9 10 C dX3_lowest_9 rfl 1 rfl ?_
    refine k_lstore 10 12 C [(5, _), (0, _), (2, _), (4, _)] dX3_lowest_10 rfl (by decide) rfl ?_
    refine k_lload_n 12 13 C dX3_lowest_12 rfl 1 rfl ?_
    refine k_absl 13 16 C dX3_lowest_13 rfl ml_X3_236 (Nat.le_of_ble_eq_true rfl) (Nat.le_of_ble_eq_true rfl) (Nat.zero_le _) (Nat.zero_le _) ?_
    refine k_lload_n 16 17 C dX3_lowest_16 rfl 2 rfl ?_
    refine k_callSL 17 20 C [_, _] [] dX3_lowest_17 rfl ct_X3_greatestDivisor mi_X3_greatestDivisor ml_X3_241 st_X3_greatestDivisor rfl rfl ⟨Nat.le_of_ble_eq_true rfl, Nat.le_of_ble_eq_true rfl⟩ (Nat.le_of_ble_eq_true rfl) (Nat.zero_le _) (Nat.zero_le _) (fun r17 V17 p17 => ?_)
    obtain ⟨rfl, rfl⟩ := And.intro p17.1.symm p17.2
    refine k_lstore 20 22 C [(7, _), (5, _), (0, _), (2, _), (4, _)] dX3_lowest_20 rfl (by decide) rfl ?_
    refine k_lload 22 24 C dX3_lowest_22 rfl 0 rfl ?_
    refine k_lconst 24 25 C dX3_lowest_24 rfl (v := 1) rfl ?_
    refine k_lcmp_le 25 26 37 29 C dX3_lowest_25 rfl dX3_lowest_26 (by decide) rfl (fun h26 => ?_) (fun h26 => ?_)
    · refine k_lload 37 39 C dX3_lowest_37 rfl 1 rfl ?_
      refine k_lret 39 C dX3_lowest_39 rfl ?_
      refine ⟨rfl, ?_⟩
      unfold lowL absl
      simp only [h2, if_true, if_false]
      first | rw [if_pos h26] | rw [if_neg h26]
    · have hz : ¬ gd 100 (absl a) b = 0 := fun z => h26 (by rw [show (gd 100 (if 0 < a then a else -a) b) = 0 from z]; decide)
      refine k_lload 29 31 C dX3_lowest_29 rfl 1 rfl ?_
      refine k_lload 31 33 C dX3_lowest_31 rfl 0 rfl ?_
      refine k_ldiv 33 34 C dX3_lowest_33 rfl hz ?_
      refine k_goto 34 39 C dX3_lowest_34 (by decide) ?_
      refine k_lret 39 C dX3_lowest_39 rfl ?_
      refine ⟨rfl, ?_⟩
      unfold lowL absl
      simp only [h2, if_true, if_false]
      first | rw [if_pos h26] | rw [if_neg h26]
  · refine k_lload_n 5 6 C dX3_lowest_5 rfl 0 rfl ?_
    refine k_goto 6 10 C dX3_lowest_6 (by decide) ?_
    refine k_lstore 10 12 C [(5, _), (0, _), (2, _), (4, _)] dX3_lowest_10 rfl (by decide) rfl ?_
    refine k_lload_n 12 13 C dX3_lowest_12 rfl 1 rfl ?_
    refine k_absl 13 16 C dX3_lowest_13 rfl ml_X3_236 (Nat.le_of_ble_eq_true rfl) (Nat.le_of_ble_eq_true rfl) (Nat.zero_le _) (Nat.zero_le _) ?_
    refine k_lload_n 16 17 C dX3_lowest_16 rfl 2 rfl ?_
    refine k_callSL 17 20 C [_, _] [] dX3_lowest_17 rfl ct_X3_greatestDivisor mi_X3_greatestDivisor ml_X3_241 st_X3_greatestDivisor rfl rfl ⟨Nat.le_of_ble_eq_true rfl, Nat.le_of_ble_eq_true rfl⟩ (Nat.le_of_ble_eq_true rfl) (Nat.zero_le _) (Nat.zero_le _) (fun r17 V17 p17 => ?_)
    obtain ⟨rfl, rfl⟩ := And.intro p17.1.symm p17.2
    refine k_lstore 20 22 C [(7, _), (5, _), (0, _), (2, _), (4, _)] dX3_lowest_20 rfl (by decide) rfl ?_
    refine k_lload 22 24 C dX3_lowest_22 rfl 0 rfl ?_
    refine k_lconst 24 25 C dX3_lowest_24 rfl (v := 1) rfl ?_
    refine k_lcmp_le 25 26 37 29 C dX3_lowest_25 rfl dX3_lowest_26 (by decide) rfl (fun h26 => ?_) (fun h26 => ?_)
    · refine k_lload 37 39 C dX3_lowest_37 rfl 1 rfl ?_
      refine k_lret 39 C dX3_lowest_39 rfl ?_
      refine ⟨rfl, ?_⟩
      unfold lowL absl
      simp only [h2, if_true, if_false]
      first | rw [if_pos h26] | rw [if_neg h26]
    · have hz : ¬ gd 100 (absl a) b = 0 := fun z => h26 (by rw [show (gd 100 (if 0 < a then a else -a) b) = 0 from z]; decide)
      refine k_lload 29 31 C dX3_lowest_29 rfl 1 rfl ?_
      refine k_lload 31 33 C dX3_lowest_31 rfl 0 rfl ?_
      refine k_ldiv 33 34 C dX3_lowest_33 rfl hz ?_
      refine k_goto 34 39 C dX3_lowest_34 (by decide) ?_
      refine k_lret 39 C dX3_lowest_39 rfl ?_
      refine ⟨rfl, ?_⟩
      unfold lowL absl
      simp only [h2, if_true, if_false]
      first | rw [if_pos h26] | rw [if_neg h26]
set_option maxHeartbeats 4000000 in
set_option maxRecDepth 100000 in
theorem ct_X1_isTooFine {E : gE} {T : gT} {l : Launch} {V : gV} {a : Nat} {d : Dr} (ha : IsDrw T a) (hd : DV V a d) : CtI E T l yX1_isTooFine (gw yX1_isTooFine cX1_isTooFine 2 (some .boolean)) { frames := 2, cells := 0, slots := 0, locals := 58 } [.ref a] V (fun (r : Int32) (V' : gV) => V' = V ∧ r = bi (tooF d = true)) := by
  refine ctI_of (L := [(0, .ref a)]) (by decide) rfl (Nat.le_of_ble_eq_true rfl) rfl (fun p e s m args below meth c C => ?_)
  have loop42 : ∀ (f : Nat) (j : Nat), rn d - j = f → (j ≤ rn d) → (¬ 100000 < lowL (rsc d) (rpt d) 0) → (¬ 100000 < lowL (rsc d) (rpt d) 1) → (tfn d j = false) → KW E T V p l e { frames := 2, cells := 0, slots := 0, locals := 58 } s m args below meth c 2 0 0 (MQ below (va_Qi (fun (r : Int32) (V' : gV) => V' = V ∧ r = bi (tooF d = true)) (RepS E T) (gA E)) args s 0 0 (gA E)) 42 [(1, .int (nI j)), (0, .ref a)] [] := by
    intro f
    induction f using Nat.strongRecOn with
    | _ f ih =>
    intro j hf hj h0 h1 ht
    refine k_iload_n 42 43 C dX1_isTooFine_42 rfl 0 rfl ?_
    refine k_aload_n 43 44 C dX1_isTooFine_43 rfl 1 rfl ?_
    refine k_get 44 47 C dX1_isTooFine_44 rfl ci_X1 7 fl_X1_34 (IsDrw.o ‹_›) (by decide) rfl ?_
    refine k_rwI (hd.f7) ?_
    refine k_icmp_ge 47 98 50 C dX1_isTooFine_47 (by decide) rfl (fun h47 => ?_) (fun h47 => ?_)
    · rw [n20 hd.le (Nat.le_trans hj hd.le)] at h47
      obtain rfl : j = rn d := by omega
      refine k_iconst 98 99 C dX1_isTooFine_98 rfl (v := 0) rfl ?_
      refine k_zret 99 C dX1_isTooFine_99 rfl (by first | exact Or.inl rfl | exact Or.inr rfl | exact bi_01) ?_
      refine ⟨rfl, (bi_f ?_).symm⟩
      simp [tooF, h0, h1, ht]
    · rw [n20 hd.le (Nat.le_trans hj hd.le)] at h47
      refine k_aload_n 50 51 C dX1_isTooFine_50 rfl 1 rfl ?_
      refine k_iload_n 51 52 C dX1_isTooFine_51 rfl 0 rfl ?_
      refine k_callVL 52 55 C [_] [] dX1_isTooFine_52 rfl (ct_X1_x ‹_› ‹_›) mi_X1_x ml_X1_52 im_X1_x se_X1_x ci_X1 (IsDrw.o ‹_›) rfl rfl ⟨Nat.le_of_ble_eq_true rfl, Nat.le_of_ble_eq_true rfl⟩ (Nat.le_of_ble_eq_true rfl) (Nat.zero_le _) (Nat.zero_le _) (fun r52 V52 p52 => ?_)
      obtain ⟨rfl, rfl⟩ := And.intro p52.1.symm p52.2
      refine k_aload_n 55 56 C dX1_isTooFine_55 rfl 1 rfl ?_
      refine k_get 56 59 C dX1_isTooFine_56 rfl ci_X1 2 fl_X1_19 (IsDrw.o ‹_›) (by decide) rfl ?_
      refine k_rwL (hd.f2) ?_
      refine k_iconst 59 60 C dX1_isTooFine_59 rfl (v := 1) rfl ?_
      refine k_callSNL 60 63 C [_, _, _] [] dX1_isTooFine_60 rfl ct_X3_lowest mi_X3_lowest mn_X1_91 st_X3_lowest rfl rfl ⟨Nat.le_of_ble_eq_true rfl, Nat.le_of_ble_eq_true rfl⟩ (Nat.le_of_ble_eq_true rfl) (Nat.zero_le _) (Nat.zero_le _) (fun r60 V60 p60 => ?_)
      obtain ⟨rfl, rfl⟩ := And.intro p60.1.symm p60.2
      refine k_ldc2 63 66 C dX1_isTooFine_63 rfl kl_X1_95 ?_
      refine k_lcmp_gt 66 67 90 70 C dX1_isTooFine_66 rfl dX1_isTooFine_67 (by decide) rfl (fun h67 => ?_) (fun h67 => ?_)
      · refine k_iconst 90 91 C dX1_isTooFine_90 rfl (v := 1) rfl ?_
        refine k_zret 91 C dX1_isTooFine_91 rfl (by first | exact Or.inl rfl | exact Or.inr rfl | exact bi_01) ?_
        refine ⟨rfl, (bi_t ?_).symm⟩
        have hs : tfn d (rn d) = true := tfn_step (d := d) (j := j) (by omega) (by first | exact Or.inl h67 | exact Or.inr (i64_not_le.mp h87))
        simp [tooF, hs]
      · refine k_aload_n 70 71 C dX1_isTooFine_70 rfl 1 rfl ?_
        refine k_iload_n 71 72 C dX1_isTooFine_71 rfl 0 rfl ?_
        refine k_callVL 72 75 C [_] [] dX1_isTooFine_72 rfl (ct_X1_y ‹_› ‹_›) mi_X1_y ml_X1_56 im_X1_y se_X1_y ci_X1 (IsDrw.o ‹_›) rfl rfl ⟨Nat.le_of_ble_eq_true rfl, Nat.le_of_ble_eq_true rfl⟩ (Nat.le_of_ble_eq_true rfl) (Nat.zero_le _) (Nat.zero_le _) (fun r72 V72 p72 => ?_)
        obtain ⟨rfl, rfl⟩ := And.intro p72.1.symm p72.2
        refine k_aload_n 75 76 C dX1_isTooFine_75 rfl 1 rfl ?_
        refine k_get 76 79 C dX1_isTooFine_76 rfl ci_X1 2 fl_X1_19 (IsDrw.o ‹_›) (by decide) rfl ?_
        refine k_rwL (hd.f2) ?_
        refine k_iconst 79 80 C dX1_isTooFine_79 rfl (v := 1) rfl ?_
        refine k_callSNL 80 83 C [_, _, _] [] dX1_isTooFine_80 rfl ct_X3_lowest mi_X3_lowest mn_X1_91 st_X3_lowest rfl rfl ⟨Nat.le_of_ble_eq_true rfl, Nat.le_of_ble_eq_true rfl⟩ (Nat.le_of_ble_eq_true rfl) (Nat.zero_le _) (Nat.zero_le _) (fun r80 V80 p80 => ?_)
        obtain ⟨rfl, rfl⟩ := And.intro p80.1.symm p80.2
        refine k_ldc2 83 86 C dX1_isTooFine_83 rfl kl_X1_95 ?_
        refine k_lcmp_le 86 87 92 90 C dX1_isTooFine_86 rfl dX1_isTooFine_87 (by decide) rfl (fun h87 => ?_) (fun h87 => ?_)
        · refine k_iinc 92 95 C [(1, _), (0, _)] (nI (j + 1)) dX1_isTooFine_92 rfl 0 rfl (nI_1 j) (by decide) rfl ?_
          refine k_goto 95 42 C dX1_isTooFine_95 (by decide) ?_
          exact ih (rn d - (j + 1)) (by omega) (j + 1) rfl (by omega) h0 h1 (by simp only [tfn, ht, Bool.false_or, Bool.or_eq_false_iff, decide_eq_false_iff_not]; exact ⟨h67, i64_not_lt.mpr h87⟩)
        · refine k_iconst 90 91 C dX1_isTooFine_90 rfl (v := 1) rfl ?_
          refine k_zret 91 C dX1_isTooFine_91 rfl (by first | exact Or.inl rfl | exact Or.inr rfl | exact bi_01) ?_
          refine ⟨rfl, (bi_t ?_).symm⟩
          have hs : tfn d (rn d) = true := tfn_step (d := d) (j := j) (by omega) (by first | exact Or.inl h67 | exact Or.inr (i64_not_le.mp h87))
          simp [tooF, hs]
  refine k_aload_n 0 1 C dX1_isTooFine_0 rfl 0 rfl ?_
  refine k_get 1 4 C dX1_isTooFine_1 rfl ci_X1 1 fl_X1_15 (IsDrw.o ‹_›) (by decide) rfl ?_
  refine k_rwL (hd.f1) ?_
  refine k_aload_n 4 5 C dX1_isTooFine_4 rfl 0 rfl ?_
  refine k_get 5 8 C dX1_isTooFine_5 rfl ci_X1 2 fl_X1_19 (IsDrw.o ‹_›) (by decide) rfl ?_
  refine k_rwL (hd.f2) ?_
  refine k_iconst 8 9 C dX1_isTooFine_8 rfl (v := 0) rfl ?_
  refine k_callSNL 9 12 C [_, _, _] [] dX1_isTooFine_9 rfl ct_X3_lowest mi_X3_lowest mn_X1_91 st_X3_lowest rfl rfl ⟨Nat.le_of_ble_eq_true rfl, Nat.le_of_ble_eq_true rfl⟩ (Nat.le_of_ble_eq_true rfl) (Nat.zero_le _) (Nat.zero_le _) (fun r9 V9 p9 => ?_)
  obtain ⟨rfl, rfl⟩ := And.intro p9.1.symm p9.2
  refine k_ldc2 12 15 C dX1_isTooFine_12 rfl kl_X1_95 ?_
  refine k_lcmp_gt 15 16 38 19 C dX1_isTooFine_15 rfl dX1_isTooFine_16 (by decide) rfl (fun h16 => ?_) (fun h16 => ?_)
  · refine k_iconst 38 39 C dX1_isTooFine_38 rfl (v := 1) rfl ?_
    refine k_zret 39 C dX1_isTooFine_39 rfl (by first | exact Or.inl rfl | exact Or.inr rfl | exact bi_01) ?_
    refine ⟨rfl, (bi_t ?_).symm⟩
    first | simp [tooF, h16]; done | simp [tooF, i64_not_le.mp h35]
  · refine k_aload_n 19 20 C dX1_isTooFine_19 rfl 0 rfl ?_
    refine k_get 20 23 C dX1_isTooFine_20 rfl ci_X1 1 fl_X1_15 (IsDrw.o ‹_›) (by decide) rfl ?_
    refine k_rwL (hd.f1) ?_
    refine k_aload_n 23 24 C dX1_isTooFine_23 rfl 0 rfl ?_
    refine k_get 24 27 C dX1_isTooFine_24 rfl ci_X1 2 fl_X1_19 (IsDrw.o ‹_›) (by decide) rfl ?_
    refine k_rwL (hd.f2) ?_
    refine k_iconst 27 28 C dX1_isTooFine_27 rfl (v := 1) rfl ?_
    refine k_callSNL 28 31 C [_, _, _] [] dX1_isTooFine_28 rfl ct_X3_lowest mi_X3_lowest mn_X1_91 st_X3_lowest rfl rfl ⟨Nat.le_of_ble_eq_true rfl, Nat.le_of_ble_eq_true rfl⟩ (Nat.le_of_ble_eq_true rfl) (Nat.zero_le _) (Nat.zero_le _) (fun r28 V28 p28 => ?_)
    obtain ⟨rfl, rfl⟩ := And.intro p28.1.symm p28.2
    refine k_ldc2 31 34 C dX1_isTooFine_31 rfl kl_X1_95 ?_
    refine k_lcmp_le 34 35 40 38 C dX1_isTooFine_34 rfl dX1_isTooFine_35 (by decide) rfl (fun h35 => ?_) (fun h35 => ?_)
    · refine k_iconst 40 41 C dX1_isTooFine_40 rfl (v := 0) rfl ?_
      refine k_istore_n 41 42 C [(1, _), (0, _)] dX1_isTooFine_41 rfl (by decide) rfl ?_
      exact loop42 _ 0 rfl (Nat.zero_le _) h16 (fun z => i64_not_lt.mpr h35 z) rfl
    · refine k_iconst 38 39 C dX1_isTooFine_38 rfl (v := 1) rfl ?_
      refine k_zret 39 C dX1_isTooFine_39 rfl (by first | exact Or.inl rfl | exact Or.inr rfl | exact bi_01) ?_
      refine ⟨rfl, (bi_t ?_).symm⟩
      first | simp [tooF, h16]; done | simp [tooF, i64_not_le.mp h35]
theorem dTake_step {V1 : gV} {a : Nat} {d : Dr} {j : Nat} (hn : rn d ≤ 20) (hj : j < rn d) (hw : dW d) (h : DV V1 a (dAdd (dTake d j) (vX d (nI j)) (vY d (nI j)) (vL d (nI j)))) : DV V1 a (dTake d (j + 1)) := by
  have hb : ¬ nI j < 0 ∧ ¬ nI (rn d) ≤ nI j := ⟨nI_pos (by omega), by rw [n20 hn (by omega)]; omega⟩
  have hc : (nI j).toNatClampNeg = j := nI_clamp (by omega)
  refine h.to rfl rfl rfl rfl rfl rfl rfl rfl (fun i hi => ?_)
  have hi' : i < j + 1 := hi
  by_cases e : i = j
  · subst e
    refine ⟨?_, ?_, ?_⟩
    · show va_up _ i _ i = _; rw [va_up_self]; unfold vX; rw [if_pos hb, hc]; rfl
    · show va_up _ i _ i = _; rw [va_up_self]; unfold vY; rw [if_pos hb, hc]; rfl
    · show va_up _ i (if i = 0 then -1 else vL d (nI i)) i = _; rw [va_up_self]; unfold vL
      by_cases e0 : i = 0
      · subst e0; rw [if_pos rfl]; exact (hw hj).symm
      · rw [if_neg e0, if_pos hb, hc]; rfl
  · refine ⟨?_, ?_, ?_⟩
    · show va_up _ j _ i = _; rw [va_up_ne _ _ e]; rfl
    · show va_up _ j _ i = _; rw [va_up_ne _ _ e]; rfl
    · show va_up _ j _ i = _; rw [va_up_ne _ _ e]; rfl
set_option maxHeartbeats 4000000 in
set_option maxRecDepth 100000 in
theorem ct_X1_takeFrom {E : gE} {T : gT} {l : Launch} {V : gV} {a b : Nat} {d : Dr} (ha : IsDrw T a) (hb : IsDrw T b) (hd : DV V b d) (hw : dW d) (hab : a + 4 ≤ b ∨ b + 4 ≤ a) : CtV E T l yX1_takeFrom (gw yX1_takeFrom cX1_takeFrom 3 none) { frames := 2, cells := 0, slots := 0, locals := 42 } [.ref a, .ref b] V (fun (V' : gV) => DV V' a d ∧ Off V V' a (a + 4)) := by
  refine ctV_of (L := [(0, .ref a), (1, .ref b)]) (by decide) rfl (Nat.le_of_ble_eq_true rfl) rfl (fun p e s m args below meth c C => ?_)
  have loop50 : ∀ (f : Nat) (V1 : gV) (j : Nat), rn d - j = f → (j ≤ rn d) → (DV V1 a (dTake d j)) → (Off V V1 a (a + 4)) → KW E T V1 p l e { frames := 2, cells := 0, slots := 0, locals := 42 } s m args below meth c 3 0 0 (MQ below (va_Qv (fun (V' : gV) => DV V' a d ∧ Off V V' a (a + 4)) (RepS E T) (gA E)) args s 0 0 (gA E)) 50 [(2, .int (nI j)), (0, .ref a), (1, .ref b)] [] := by
    intro f
    induction f using Nat.strongRecOn with
    | _ f ih =>
    intro V1 j hf hj g1 g2
    have g3 := hd.off g2 (by omega)
    refine k_iload_n 50 51 C dX1_takeFrom_50 rfl 0 rfl ?_
    refine k_aload_n 51 52 C dX1_takeFrom_51 rfl 2 rfl ?_
    refine k_get 52 55 C dX1_takeFrom_52 rfl ci_X1 7 fl_X1_34 (IsDrw.o hb) (by decide) rfl ?_
    refine k_rwI (g3.f7) ?_
    refine k_icmp_ge 55 83 58 C dX1_takeFrom_55 (by decide) rfl (fun h55 => ?_) (fun h55 => ?_)
    · rw [n20 hd.le (Nat.le_trans hj hd.le)] at h55
      obtain rfl : j = rn d := by omega
      refine k_vret 83 C dX1_takeFrom_83 rfl ?_
      exact ⟨g1.to rfl rfl rfl rfl rfl rfl rfl rfl (fun i hi => ⟨rfl, rfl, rfl⟩), g2⟩
    · rw [n20 hd.le (Nat.le_trans hj hd.le)] at h55
      refine k_aload_n 58 59 C dX1_takeFrom_58 rfl 1 rfl ?_
      refine k_aload_n 59 60 C dX1_takeFrom_59 rfl 2 rfl ?_
      refine k_iload_n 60 61 C dX1_takeFrom_60 rfl 0 rfl ?_
      refine k_callVL 61 64 C [_] [_] dX1_takeFrom_61 rfl (ct_X1_x hb g3) mi_X1_x ml_X1_52 im_X1_x se_X1_x ci_X1 (IsDrw.o hb) rfl rfl ⟨Nat.le_of_ble_eq_true rfl, Nat.le_of_ble_eq_true rfl⟩ (Nat.le_of_ble_eq_true rfl) (Nat.zero_le _) (Nat.zero_le _) (fun r61 V61 p61 => ?_)
      obtain ⟨rfl, rfl⟩ := And.intro p61.1.symm p61.2
      refine k_aload_n 64 65 C dX1_takeFrom_64 rfl 2 rfl ?_
      refine k_iload_n 65 66 C dX1_takeFrom_65 rfl 0 rfl ?_
      refine k_callVL 66 69 C [_] [_, _] dX1_takeFrom_66 rfl (ct_X1_y hb g3) mi_X1_y ml_X1_56 im_X1_y se_X1_y ci_X1 (IsDrw.o hb) rfl rfl ⟨Nat.le_of_ble_eq_true rfl, Nat.le_of_ble_eq_true rfl⟩ (Nat.le_of_ble_eq_true rfl) (Nat.zero_le _) (Nat.zero_le _) (fun r66 V66 p66 => ?_)
      obtain ⟨rfl, rfl⟩ := And.intro p66.1.symm p66.2
      refine k_aload_n 69 70 C dX1_takeFrom_69 rfl 2 rfl ?_
      refine k_iload_n 70 71 C dX1_takeFrom_70 rfl 0 rfl ?_
      refine k_callVI 71 74 C [_] [_, _, _] dX1_takeFrom_71 rfl (ct_X1_line hb g3) mi_X1_line ml_X1_59 im_X1_line se_X1_line ci_X1 (IsDrw.o hb) rfl rfl ⟨Nat.le_of_ble_eq_true rfl, Nat.le_of_ble_eq_true rfl⟩ (Nat.le_of_ble_eq_true rfl) (Nat.zero_le _) (Nat.zero_le _) (fun r71 V71 p71 => ?_)
      obtain ⟨rfl, rfl⟩ := And.intro p71.1.symm p71.2
      refine k_callVV 74 77 C [_, _, _] [] dX1_takeFrom_74 rfl (ct_X1_add ha g1 (show j < 20 by have := hd.le; omega)) mi_X1_add ml_X1_63 im_X1_add se_X1_add ci_X1 (IsDrw.o ha) rfl rfl ⟨Nat.le_of_ble_eq_true rfl, Nat.le_of_ble_eq_true rfl⟩ (Nat.le_of_ble_eq_true rfl) (Nat.zero_le _) (Nat.zero_le _) (fun V74 p74 => ?_)
      refine k_iinc 77 80 C [(2, _), (0, _), (1, _)] (nI (j + 1)) dX1_takeFrom_77 rfl 0 rfl (nI_1 j) (by decide) rfl ?_
      refine k_goto 80 50 C dX1_takeFrom_80 (by decide) ?_
      exact ih (rn d - (j + 1)) (by omega) V74 (j + 1) rfl (by omega) (dTake_step hd.le (by omega) hw p74.1) (g2.trans p74.2)
  refine k_aload_n 0 1 C dX1_takeFrom_0 rfl 0 rfl ?_
  refine k_aload_n 1 2 C dX1_takeFrom_1 rfl 1 rfl ?_
  refine k_get 2 5 C dX1_takeFrom_2 rfl ci_X1 0 fl_X1_9 (IsDrw.o hb) (by decide) rfl ?_
  refine k_rwI (hd.f0) ?_
  refine k_aload_n 5 6 C dX1_takeFrom_5 rfl 1 rfl ?_
  refine k_get 6 9 C dX1_takeFrom_6 rfl ci_X1 1 fl_X1_15 (IsDrw.o hb) (by decide) rfl ?_
  refine k_rwL (hd.f1) ?_
  refine k_aload_n 9 10 C dX1_takeFrom_9 rfl 1 rfl ?_
  refine k_get 10 13 C dX1_takeFrom_10 rfl ci_X1 2 fl_X1_19 (IsDrw.o hb) (by decide) rfl ?_
  refine k_rwL (hd.f2) ?_
  refine k_callVV 13 16 C [_, _, _] [] dX1_takeFrom_13 rfl (ct_X1_begin ha) mi_X1_begin ml_X1_48 im_X1_begin se_X1_begin ci_X1 (IsDrw.o ha) rfl rfl ⟨Nat.le_of_ble_eq_true rfl, Nat.le_of_ble_eq_true rfl⟩ (Nat.le_of_ble_eq_true rfl) (Nat.zero_le _) (Nat.zero_le _) (fun V13 p13 => ?_)
  have e13 := hd.off p13.2 (by omega)
  refine k_aload_n 16 17 C dX1_takeFrom_16 rfl 0 rfl ?_
  refine k_aload_n 17 18 C dX1_takeFrom_17 rfl 1 rfl ?_
  refine k_get 18 21 C dX1_takeFrom_18 rfl ci_X1 3 fl_X1_22 (IsDrw.o hb) (by decide) rfl ?_
  refine k_rwI (e13.f3) ?_
  refine k_put 21 24 C dX1_takeFrom_21 rfl ci_X1 3 fl_X1_22 (IsDrw.o ha) (by decide) rfl rfl rfl wI_off (ps_1_3 _ _ _ _) ?_
  have o1 := p13.2.wI (k := 3) (x := rsx d) (Nat.le_refl a) (by omega)
  have e14 := hd.off o1 (by omega)
  refine k_aload_n 24 25 C dX1_takeFrom_24 rfl 0 rfl ?_
  refine k_aload_n 25 26 C dX1_takeFrom_25 rfl 1 rfl ?_
  refine k_get 26 29 C dX1_takeFrom_26 rfl ci_X1 4 fl_X1_25 (IsDrw.o hb) (by decide) rfl ?_
  refine k_rwI (e14.f4) ?_
  refine k_put 29 32 C dX1_takeFrom_29 rfl ci_X1 4 fl_X1_25 (IsDrw.o ha) (by decide) rfl rfl rfl wI_off (ps_1_4 _ _ _ _) ?_
  have o2 := o1.wI (k := 4) (x := rsy d) (Nat.le_refl a) (by omega)
  have e15 := hd.off o2 (by omega)
  refine k_aload_n 32 33 C dX1_takeFrom_32 rfl 0 rfl ?_
  refine k_aload_n 33 34 C dX1_takeFrom_33 rfl 1 rfl ?_
  refine k_get 34 37 C dX1_takeFrom_34 rfl ci_X1 5 fl_X1_28 (IsDrw.o hb) (by decide) rfl ?_
  refine k_rwL (e15.f5) ?_
  refine k_put 37 40 C dX1_takeFrom_37 rfl ci_X1 5 fl_X1_28 (IsDrw.o ha) (by decide) rfl rfl rfl wL_off (ps_1_5 _ _ _ _) ?_
  have o3 := o2.wL (k := 5) (x := rhx d) (Nat.le_refl a) (by omega)
  have e16 := hd.off o3 (by omega)
  refine k_aload_n 40 41 C dX1_takeFrom_40 rfl 0 rfl ?_
  refine k_aload_n 41 42 C dX1_takeFrom_41 rfl 1 rfl ?_
  refine k_get 42 45 C dX1_takeFrom_42 rfl ci_X1 6 fl_X1_31 (IsDrw.o hb) (by decide) rfl ?_
  refine k_rwL (e16.f6) ?_
  refine k_put 45 48 C dX1_takeFrom_45 rfl ci_X1 6 fl_X1_31 (IsDrw.o ha) (by decide) rfl rfl rfl wL_off (ps_1_6 _ _ _ _) ?_
  have o4 := o3.wL (k := 6) (x := rhy d) (Nat.le_refl a) (by omega)
  refine k_iconst 48 49 C dX1_takeFrom_48 rfl (v := 0) rfl ?_
  refine k_istore_n 49 50 C [(2, _), (0, _), (1, _)] dX1_takeFrom_49 rfl (by decide) rfl ?_
  refine loop50 _ _ 0 rfl (Nat.zero_le _) ?_ o4
  have hh := p13.1
  obtain ⟨q0, q1, q2, q3, q4, q5, q6, q7, q8, q9⟩ := hh
  exact ⟨by simp [wI, wL, upd]; exact q0, by simp [wI, wL, vp_updL]; exact q1, by simp [wI, wL, vp_updL]; exact q2, by simp [wI, wL, upd]; rfl, by simp [wI, wL, upd]; rfl, by simp [wI, wL, vp_updL]; rfl, by simp [wI, wL, vp_updL]; rfl, by simp [wI, wL, upd]; exact q7, Nat.zero_le _, fun i hi => absurd hi (Nat.not_lt_zero i)⟩
set_option maxHeartbeats 4000000 in
set_option maxRecDepth 100000 in
theorem ct_X1_ratioAsFloat {E : gE} {T : gT} {l : Launch} {V : gV} {a : Nat} {d : Dr} (ha : IsDrw T a) (hd : DV V a d) (hf : ¬ lowL (rsc d) (rpt d) 1 ≤ 0 → vf_n32 (FP.fdiv (FP.l2f (lowL (rsc d) (rpt d) 0)) (FP.l2f (lowL (rsc d) (rpt d) 1)))) : CtF E T l yX1_ratioAsFloat (gw yX1_ratioAsFloat cX1_ratioAsFloat 5 (some .float)) { frames := 2, cells := 0, slots := 0, locals := 58 } [.ref a] V (fun (r : UInt32) (V' : gV) => V' = V ∧ r = if lowL (rsc d) (rpt d) 1 ≤ 0 then FP.fconst1 else FP.fdiv (FP.l2f (lowL (rsc d) (rpt d) 0)) (FP.l2f (lowL (rsc d) (rpt d) 1))) := by
  refine ctF_of (L := [(0, .ref a)]) (by decide) rfl (Nat.le_of_ble_eq_true rfl) rfl (fun p e s m args below meth c C => ?_)
  refine k_aload_n 0 1 C dX1_ratioAsFloat_0 rfl 0 rfl ?_
  refine k_get 1 4 C dX1_ratioAsFloat_1 rfl ci_X1 1 fl_X1_15 (IsDrw.o ‹_›) (by decide) rfl ?_
  refine k_rwL (hd.f1) ?_
  refine k_aload_n 4 5 C dX1_ratioAsFloat_4 rfl 0 rfl ?_
  refine k_get 5 8 C dX1_ratioAsFloat_5 rfl ci_X1 2 fl_X1_19 (IsDrw.o ‹_›) (by decide) rfl ?_
  refine k_rwL (hd.f2) ?_
  refine k_iconst 8 9 C dX1_ratioAsFloat_8 rfl (v := 0) rfl ?_
  refine k_callSNL 9 12 C [_, _, _] [] dX1_ratioAsFloat_9 rfl ct_X3_lowest mi_X3_lowest mn_X1_91 st_X3_lowest rfl rfl ⟨Nat.le_of_ble_eq_true rfl, Nat.le_of_ble_eq_true rfl⟩ (Nat.le_of_ble_eq_true rfl) (Nat.zero_le _) (Nat.zero_le _) (fun r9 V9 p9 => ?_)
  obtain ⟨rfl, rfl⟩ := And.intro p9.1.symm p9.2
  refine k_lstore_n 12 13 C [(1, _), (0, _)] dX1_ratioAsFloat_12 rfl (by decide) rfl ?_
  refine k_aload_n 13 14 C dX1_ratioAsFloat_13 rfl 1 rfl ?_
  refine k_get 14 17 C dX1_ratioAsFloat_14 rfl ci_X1 1 fl_X1_15 (IsDrw.o ‹_›) (by decide) rfl ?_
  refine k_rwL (hd.f1) ?_
  refine k_aload_n 17 18 C dX1_ratioAsFloat_17 rfl 1 rfl ?_
  refine k_get 18 21 C dX1_ratioAsFloat_18 rfl ci_X1 2 fl_X1_19 (IsDrw.o ‹_›) (by decide) rfl ?_
  refine k_rwL (hd.f2) ?_
  refine k_iconst 21 22 C dX1_ratioAsFloat_21 rfl (v := 1) rfl ?_
  refine k_callSNL 22 25 C [_, _, _] [] dX1_ratioAsFloat_22 rfl ct_X3_lowest mi_X3_lowest mn_X1_91 st_X3_lowest rfl rfl ⟨Nat.le_of_ble_eq_true rfl, Nat.le_of_ble_eq_true rfl⟩ (Nat.le_of_ble_eq_true rfl) (Nat.zero_le _) (Nat.zero_le _) (fun r22 V22 p22 => ?_)
  obtain ⟨rfl, rfl⟩ := And.intro p22.1.symm p22.2
  refine k_lstore_n 25 26 C [(3, _), (1, _), (0, _)] dX1_ratioAsFloat_25 rfl (by decide) rfl ?_
  refine k_lload_n 26 27 C dX1_ratioAsFloat_26 rfl 0 rfl ?_
  refine k_lconst 27 28 C dX1_ratioAsFloat_27 rfl (v := 0) rfl ?_
  refine k_lcmp_le 28 29 40 32 C dX1_ratioAsFloat_28 rfl dX1_ratioAsFloat_29 (by decide) rfl (fun h29 => ?_) (fun h29 => ?_)
  · refine k_fconst1 40 41 C dX1_ratioAsFloat_40 rfl ?_
    refine k_fret 41 C dX1_ratioAsFloat_41 rfl ?_
    exact ⟨rfl, by simp [h29]⟩
  · refine k_lload_n 32 33 C dX1_ratioAsFloat_32 rfl 1 rfl ?_
    refine k_l2f 33 34 C dX1_ratioAsFloat_33 rfl  ?_
    refine k_lload_n 34 35 C dX1_ratioAsFloat_34 rfl 0 rfl ?_
    refine k_l2f 35 36 C dX1_ratioAsFloat_35 rfl  ?_
    refine k_fdiv 36 37 C dX1_ratioAsFloat_36 rfl (hf h29) ?_
    refine k_goto 37 41 C dX1_ratioAsFloat_37 (by decide) ?_
    refine k_fret 41 C dX1_ratioAsFloat_41 rfl ?_
    exact ⟨rfl, by simp [h29]⟩
end
section
/-! a desk as a record: fields, settings, number of drawings, drawings; π: which of its six rows a place holds -/
abbrev Dk : Type := (Nat → Int32) × (Nat → Int32) × Nat × (Nat → Dr)
def kf (S : Dk) : Nat → Int32 := S.1
def ks (S : Dk) : Nat → Int32 := S.2.1
def kn (S : Dk) : Nat := S.2.2.1
def kdr (S : Dk) : Nat → Dr := S.2.2.2
def DK (V : gV) (D : Nat) (S : Dk) (π : Nat → Nat) : Prop := (∀ j, j < 10 → j ≠ 4 → V.1 D j = kf S j) ∧ (∀ j, j < 5 → V.1 (D + 1) j = ks S j) ∧ V.1 D 11 = nI (kn S) ∧ kn S ≤ 6 ∧ (∀ j, j < 6 → π j < 6 ∧ V.2.2 (D + 2) j = some (D + 3 + 4 * π j)) ∧ (∀ i j, i < 6 → j < 6 → π i = π j → i = j) ∧ ∀ i, i < kn S → DV V (D + 3 + 4 * π i) (kdr S i) ∧ dW (kdr S i)
section DKS
variable {V : gV} {D : Nat} {S : Dk} {π : Nat → Nat}
theorem DK.f (h : DK V D S π) (j : Nat) (hj : j < 10) (h4 : j ≠ 4) : V.1 D j = kf S j := h.1 j hj h4
theorem DK.s (h : DK V D S π) (j : Nat) (hj : j < 5) : V.1 (D + 1) j = ks S j := h.2.1 j hj
theorem DK.n (h : DK V D S π) : V.1 D 11 = nI (kn S) := h.2.2.1
theorem DK.le (h : DK V D S π) : kn S ≤ 6 := h.2.2.2.1
theorem DK.p (h : DK V D S π) (j : Nat) (hj : j < 6) : π j < 6 := (h.2.2.2.2.1 j hj).1
theorem DK.r (h : DK V D S π) (j : Nat) (hj : j < 6) : V.2.2 (D + 2) j = some (D + 3 + 4 * π j) := (h.2.2.2.2.1 j hj).2
theorem DK.inj (h : DK V D S π) (i j : Nat) (hi : i < 6) (hj : j < 6) (e : π i = π j) : i = j := h.2.2.2.2.2.1 i j hi hj e
theorem DK.d (h : DK V D S π) (i : Nat) (hi : i < kn S) : DV V (D + 3 + 4 * π i) (kdr S i) := (h.2.2.2.2.2.2 i hi).1
theorem DK.w (h : DK V D S π) (i : Nat) (hi : i < kn S) : dW (kdr S i) := (h.2.2.2.2.2.2 i hi).2
theorem DK.off {V' : gV} {lo hi : Nat} (h : DK V D S π) (ho : Off V V' lo hi) (hb : D + 27 ≤ lo ∨ hi ≤ D) : DK V' D S π := by
  obtain ⟨h1, h2, h3, h4, h5, h6, h7⟩ := h
  have e0 := ho D (by omega)
  have e1 := ho (D + 1) (by omega)
  have e2 := ho (D + 2) (by omega)
  refine ⟨fun j a b => by rw [e0.1]; exact h1 j a b, fun j a => by rw [e1.1]; exact h2 j a, by rw [e0.1]; exact h3, h4, fun j a => by rw [e2.2.2]; exact h5 j a, h6, fun i a => ?_⟩
  have hp := (h5 i (by omega)).1
  exact ⟨(h7 i a).1.off ho (by omega), (h7 i a).2⟩
/-- one of its drawings changed -/
theorem DK.drw {V' : gV} (h : DK V D S π) {i : Nat} (hi : i < kn S) {d' : Dr} (ho : Off V V' (D + 3 + 4 * π i) (D + 3 + 4 * π i + 4)) (hd : DV V' (D + 3 + 4 * π i) d') (hw : dW d') : DK V' D (kf S, ks S, kn S, va_up (kdr S) i d') π := by
  obtain ⟨h1, h2, h3, h4, h5, h6, h7⟩ := h
  have e0 := ho D (by omega)
  have e1 := ho (D + 1) (by omega)
  have e2 := ho (D + 2) (by omega)
  refine ⟨fun j a b => by rw [e0.1]; exact h1 j a b, fun j a => by rw [e1.1]; exact h2 j a, by rw [e0.1]; exact h3, h4, fun j a => by rw [e2.2.2]; exact h5 j a, h6, fun k a => ?_⟩
  have a' : k < kn S := a
  by_cases ek : k = i
  · subst ek
    show DV V' _ (va_up _ _ _ _) ∧ dW (va_up _ _ _ _)
    rw [va_up_self]
    exact ⟨hd, hw⟩
  · show DV V' _ (va_up _ _ _ _) ∧ dW (va_up _ _ _ _)
    rw [va_up_ne _ _ ek]
    have hp : π k ≠ π i := fun z => ek (h6 k i (by omega) (by omega) z)
    exact ⟨(h7 k a').1.off ho (by omega), (h7 k a').2⟩
/-- a spare row changed -/
theorem DK.spare {V' : gV} (h : DK V D S π) {j : Nat} (hj : j < 6) (hn : kn S ≤ j) (ho : Off V V' (D + 3 + 4 * π j) (D + 3 + 4 * π j + 4)) : DK V' D S π := by
  obtain ⟨h1, h2, h3, h4, h5, h6, h7⟩ := h
  have e0 := ho D (by omega)
  have e1 := ho (D + 1) (by omega)
  have e2 := ho (D + 2) (by omega)
  refine ⟨fun j a b => by rw [e0.1]; exact h1 j a b, fun j a => by rw [e1.1]; exact h2 j a, by rw [e0.1]; exact h3, h4, fun j a => by rw [e2.2.2]; exact h5 j a, h6, fun k a => ?_⟩
  have hp : π k ≠ π j := fun z => by have := h6 k j (by omega) hj z; omega
  exact ⟨(h7 k a).1.off ho (by omega), (h7 k a).2⟩
/-- a field written -/
theorem DK.fld (h : DK V D S π) {j : Nat} {x : Int32} (hj : j < 10) : DK (wI V D j x) D (va_up (kf S) j x, ks S, kn S, kdr S) π := by
  obtain ⟨h1, h2, h3, h4, h5, h6, h7⟩ := h
  have ho : ∀ b, b ≠ D → (wI V D j x).1 b = V.1 b := fun b hb => (wI_off b hb).1
  refine ⟨fun i a b => ?_, fun i a => by rw [ho (D + 1) (by omega)]; exact h2 i a, ?_, h4, h5, h6, fun k a => ⟨?_, (h7 k a).2⟩⟩
  · show (wI V D j x).1 D i = va_up (kf S) j x i
    by_cases e : i = j
    · subst e; simp [wI, upd, va_up]
    · simp only [wI, upd, va_up, if_true, e, if_false]; exact h1 i a b
  · show (wI V D j x).1 D 11 = _
    simp only [wI, upd, if_true, show ¬ 11 = j by omega, if_false]; exact h3
  · exact (h7 k a).1.off (lo := D) (hi := D + 1) (Off.rf.wI (Nat.le_refl D) (by omega)) (by omega)
/-- a setting written -/
theorem DK.stg (h : DK V D S π) {j : Nat} {x : Int32} (hj : j < 5) : DK (wI V (D + 1) j x) D (kf S, va_up (ks S) j x, kn S, kdr S) π := by
  obtain ⟨h1, h2, h3, h4, h5, h6, h7⟩ := h
  have ho : ∀ b, b ≠ D + 1 → (wI V (D + 1) j x).1 b = V.1 b := fun b hb => (wI_off b hb).1
  refine ⟨fun i a b => by rw [ho D (by omega)]; exact h1 i a b, fun i a => ?_, by rw [ho D (by omega)]; exact h3, h4, h5, h6, fun k a => ⟨?_, (h7 k a).2⟩⟩
  · show (wI V (D + 1) j x).1 (D + 1) i = va_up (ks S) j x i
    by_cases e : i = j
    · subst e; simp [wI, upd, va_up]
    · simp only [wI, upd, va_up, if_true, e, if_false]; exact h2 i a
  · exact (h7 k a).1.off (lo := D + 1) (hi := D + 2) (Off.rf.wI (Nat.le_refl _) (by omega)) (by omega)
end DKS
def sFind (D : Nat) (S : Dk) (π : Nat → Nat) (i : Int32) : Option Nat := if ¬ i < 0 ∧ ¬ nI (kn S) ≤ i then some (D + 3 + 4 * π i.toNatClampNeg) else none
theorem n6 {n j : Nat} (hn : n ≤ 20) (hj : j ≤ 20) : nI n ≤ nI j ↔ n ≤ j := nI_leI (by omega) (by omega)
theorem sFind_at {D : Nat} {S : Dk} {π : Nat → Nat} {j : Nat} (hn : kn S ≤ 6) (hj : j < kn S) : sFind D S π (nI j) = some (D + 3 + 4 * π j) := by
  unfold sFind
  rw [if_pos ⟨nI_pos (by omega), by rw [n6 (by omega) (by omega)]; omega⟩, nI_clamp (by omega)]
theorem sFind_out {D : Nat} {S : Dk} {π : Nat → Nat} {i : Int32} (h : ¬ (¬ i < 0 ∧ ¬ nI (kn S) ≤ i)) : sFind D S π i = none := if_neg h
theorem sFind_cases (D : Nat) (S : Dk) (π : Nat → Nat) (hn : kn S ≤ 6) (i : Int32) : (¬ (¬ i < 0 ∧ ¬ nI (kn S) ≤ i) ∧ sFind D S π i = none) ∨ ∃ j, j < kn S ∧ i = nI j ∧ sFind D S π i = some (D + 3 + 4 * π j) := by
  by_cases h : ¬ i < 0 ∧ ¬ nI (kn S) ≤ i
  · obtain ⟨j, hj, rfl⟩ := nI_of h.1
    have h2 := h.2
    rw [nI_leI (by omega) hj] at h2
    exact Or.inr ⟨j, by omega, rfl, sFind_at hn (by omega)⟩
  · exact Or.inl ⟨h, if_neg h⟩
def sSet (S : Dk) (i : Int32) : Int32 := if ¬ i < 0 ∧ ¬ 5 ≤ i then ks S i.toNatClampNeg else 0
def sgX (S : Dk) : Int32 := if ks S 0 = 0 then 1 else -1
def sgY (S : Dk) : Int32 := if ks S 0 = 1 then -1 else 1
def hcp (S : Dk) (num : Int32) : Nat → Bool
  | 0 => false
  | j + 1 => hcp S num j || decide (rpa (kdr S j) = num)
theorem hcp_mono {S : Dk} {num : Int32} {j : Nat} : ∀ {n : Nat}, j < n → rpa (kdr S j) = num → hcp S num n = true
  | n + 1, h, h2 => by
    by_cases e : j = n
    · subst e; simp [hcp, h2]
    · have h3 := hcp_mono (S := S) (num := num) (n := n) (by omega) h2
      simp [hcp, h3]
def orgF (S : Dk) : Nat → Int32 → Int32
  | 0, a => a
  | k + 1, a => if (¬ a < 0 ∧ ¬ nI (kn S) ≤ a) ∧ ¬ rpa (kdr S a.toNatClampNeg) = -1 then orgF S k (rpa (kdr S a.toNatClampNeg)) else a
def stpF (S : Dk) : Nat → Nat → Int32 → Int32
  | 0, _, _ => 6
  | k + 1, i, a => if (¬ a < 0 ∧ ¬ nI (kn S) ≤ a) ∧ ¬ rpa (kdr S a.toNatClampNeg) = -1 then stpF S k (i + 1) (rpa (kdr S a.toNatClampNeg)) else nI i
def onB (S : Dk) (d : Dr) (i : Int32) : Bool := decide (¬ vX d i < 0) && (decide (¬ (ks S 2).toInt64 * rpt d < vX d i) && (decide (¬ vY d i < 0) && decide (¬ (ks S 3).toInt64 * rpt d < vY d i)))
def offB (S : Dk) (d : Dr) : Nat → Nat
  | 0 => 0
  | j + 1 => offB S d j + (if onB S d (nI j) = true then 0 else 1)
def sWorn (S : Dk) : Int32 := 1 + (quo (kf S 5).toInt64 (ks S 4).toInt64).toInt32
def sAim (S : Dk) (place parts : Int64) (pv sg : Int32) : Int64 := pv.toInt64 * parts * (kf S 1).toInt64 + (sg * kf S 0).toInt64 * (place - pv.toInt64 * parts)
def sFol (place aim play : Int64) : Int64 := if place + play < aim then aim - play else if aim < place - play then aim + play else place
set_option maxHeartbeats 4000000 in
set_option maxRecDepth 100000 in
theorem ct_X0_setting {E : gE} {T : gT} {l : Launch} {V : gV} {i : Int32} {D : Nat} {S : Dk} {π : Nat → Nat} (hD : IsDsk T D) (hk : DK V D S π) : CtI E T l yX0_setting (gw yX0_setting cX0_setting 2 (some .int)) { frames := 0, cells := 0, slots := 0, locals := 0 } [.ref D, .int i] V (fun (r : Int32) (V' : gV) => V' = V ∧ r = sSet S i) := by
  refine ctI_of (L := [(0, .ref D), (1, .int i)]) (by decide) rfl (Nat.le_of_ble_eq_true rfl) rfl (fun p e s m args below meth c C => ?_)
  refine k_iload_n 0 1 C dX0_setting_0 rfl 1 rfl ?_
  refine k_if_lt 1 22 4 C dX0_setting_1 (by decide) rfl (fun h1 => ?_) (fun h1 => ?_)
  · refine k_iconst 22 23 C dX0_setting_22 rfl (v := 0) rfl ?_
    refine k_iret 23 C dX0_setting_23 rfl ?_
    exact ⟨rfl, by simp [sSet, h1]⟩
  · refine k_iload_n 4 5 C dX0_setting_4 rfl 1 rfl ?_
    refine k_aload_n 5 6 C dX0_setting_5 rfl 0 rfl ?_
    refine k_getF 6 9 C dX0_setting_6 rfl ci_X0 4 fl_X0_28 (IsDsk.o ‹_›) (by decide) (IsDsk.f4 ‹_›) rfl ?_
    refine k_alen 9 10 C dX0_setting_9 rfl (IsDsk.a4 ‹_›) (by decide) (v := 5) rfl ?_
    refine k_icmp_ge 10 22 13 C dX0_setting_10 (by decide) rfl (fun h10 => ?_) (fun h10 => ?_)
    · refine k_iconst 22 23 C dX0_setting_22 rfl (v := 0) rfl ?_
      refine k_iret 23 C dX0_setting_23 rfl ?_
      exact ⟨rfl, by simp [sSet, h1, h10]⟩
    · have hz : i.toNatClampNeg < 5 := Nat.not_le.mp (fun z => (vi_of (N := 5) (by decide) h1 h10) (Or.inr z))
      refine k_aload_n 13 14 C dX0_setting_13 rfl 0 rfl ?_
      refine k_getF 14 17 C dX0_setting_14 rfl ci_X0 4 fl_X0_28 (IsDsk.o ‹_›) (by decide) (IsDsk.f4 ‹_›) rfl ?_
      refine k_iload_n 17 18 C dX0_setting_17 rfl 1 rfl ?_
      refine k_iald 18 19 C dX0_setting_18 rfl (IsDsk.a4 ‹_›) (vi_of (by decide) h1 h10) ?_
      refine k_rwI (hk.s _ hz) ?_
      refine k_goto 19 23 C dX0_setting_19 (by decide) ?_
      refine k_iret 23 C dX0_setting_23 rfl ?_
      exact ⟨rfl, by simp [sSet, h1, h10]⟩
set_option maxHeartbeats 4000000 in
set_option maxRecDepth 100000 in
theorem ct_X0_find {E : gE} {T : gT} {l : Launch} {V : gV} {i : Int32} {D : Nat} {S : Dk} {π : Nat → Nat} (hD : IsDsk T D) (hk : DK V D S π) : CtQ E T l yX0_find (gw yX0_find cX0_find 2 (some (.object "PantographArm$Drawing"))) { frames := 0, cells := 0, slots := 0, locals := 0 } [.ref D, .int i] V (fun (r : Option Nat) (V' : gV) => V' = V ∧ r = sFind D S π i) := by
  refine ctQ_of (L := [(0, .ref D), (1, .int i)]) (by decide) rfl (Nat.le_of_ble_eq_true rfl) rfl (fun p e s m args below meth c C => ?_)
  refine k_iload_n 0 1 C dX0_find_0 rfl 1 rfl ?_
  refine k_if_lt 1 30 4 C dX0_find_1 (by decide) rfl (fun h1 => ?_) (fun h1 => ?_)
  · refine k_null 30 31 C dX0_find_30 rfl  ?_
    refine k_aret 31 C (x := none) dX0_find_31 rfl (Or.inl ⟨_, rfl⟩) ?_
    first | exact ⟨rfl, (sFind_out (fun z => z.1 h1)).symm⟩ | exact ⟨rfl, (sFind_out (fun z => z.2 h9)).symm⟩ | exact ⟨rfl, by unfold sFind; rw [if_pos ⟨h1, h9⟩, nI_clamp hj]⟩
  · refine k_iload_n 4 5 C dX0_find_4 rfl 1 rfl ?_
    refine k_aload_n 5 6 C dX0_find_5 rfl 0 rfl ?_
    refine k_get 6 9 C dX0_find_6 rfl ci_X0 11 fl_X0_52 (IsDsk.o ‹_›) (by decide) rfl ?_
    refine k_rwI (hk.n) ?_
    refine k_icmp_ge 9 30 12 C dX0_find_9 (by decide) rfl (fun h9 => ?_) (fun h9 => ?_)
    · refine k_null 30 31 C dX0_find_30 rfl  ?_
      refine k_aret 31 C (x := none) dX0_find_31 rfl (Or.inl ⟨_, rfl⟩) ?_
      first | exact ⟨rfl, (sFind_out (fun z => z.1 h1)).symm⟩ | exact ⟨rfl, (sFind_out (fun z => z.2 h9)).symm⟩ | exact ⟨rfl, by unfold sFind; rw [if_pos ⟨h1, h9⟩, nI_clamp hj]⟩
    · obtain ⟨j, hj, rfl⟩ := nI_of h1
      have h9b := h9
      rw [nI_leI (by have := hk.le; omega) hj] at h9b
      have hj6 : j < 6 := by have := hk.le; omega
      refine k_iload_n 12 13 C dX0_find_12 rfl 1 rfl ?_
      refine k_aload_n 13 14 C dX0_find_13 rfl 0 rfl ?_
      refine k_getF 14 17 C dX0_find_14 rfl ci_X0 10 fl_X0_48 (IsDsk.o ‹_›) (by decide) (IsDsk.f10 ‹_›) rfl ?_
      refine k_alen 17 18 C dX0_find_17 rfl (IsDsk.a10 ‹_›) (by decide) (v := 6) rfl ?_
      refine k_icmp_ge 18 30 21 C dX0_find_18 (by decide) rfl (fun h18 => ?_) (fun h18 => ?_)
      · exact absurd (show nI 6 ≤ nI j from h18) (by rw [nI_leI (by omega) (by omega)]; omega)
      · refine k_aload_n 21 22 C dX0_find_21 rfl 0 rfl ?_
        refine k_getF 22 25 C dX0_find_22 rfl ci_X0 10 fl_X0_48 (IsDsk.o ‹_›) (by decide) (IsDsk.f10 ‹_›) rfl ?_
        refine k_iload_n 25 26 C dX0_find_25 rfl 1 rfl ?_
        refine k_aald2 26 27 C dX0_find_26 rfl (IsDsk.a10 ‹_›) (vp_in_nI hj6 (by decide)) ?_
        rw [nI_clamp hj]
        refine k_rwQ (hk.r j hj6) ?_
        refine k_goto 27 31 C dX0_find_27 (by decide) ?_
        refine k_aret 31 C dX0_find_31 rfl (Or.inl ⟨_, rfl⟩) ?_
        first | exact ⟨rfl, (sFind_out (fun z => z.1 h1)).symm⟩ | exact ⟨rfl, (sFind_out (fun z => z.2 h9)).symm⟩ | exact ⟨rfl, by unfold sFind; rw [if_pos ⟨h1, h9⟩, nI_clamp hj]⟩
set_option maxHeartbeats 4000000 in
set_option maxRecDepth 100000 in
theorem ct_X0_spare {E : gE} {T : gT} {l : Launch} {V : gV} {D : Nat} {S : Dk} {π : Nat → Nat} (hD : IsDsk T D) (hk : DK V D S π) : CtQ E T l yX0_spare (gw yX0_spare cX0_spare 1 (some (.object "PantographArm$Drawing"))) { frames := 0, cells := 0, slots := 0, locals := 0 } [.ref D] V (fun (r : Option Nat) (V' : gV) => V' = V ∧ r = if kn S < 6 then some (D + 3 + 4 * π (kn S)) else none) := by
  refine ctQ_of (L := [(0, .ref D)]) (by decide) rfl (Nat.le_of_ble_eq_true rfl) rfl (fun p e s m args below meth c C => ?_)
  refine k_aload_n 0 1 C dX0_spare_0 rfl 0 rfl ?_
  refine k_get 1 4 C dX0_spare_1 rfl ci_X0 11 fl_X0_52 (IsDsk.o ‹_›) (by decide) rfl ?_
  refine k_rwI (hk.n) ?_
  refine k_if_lt 4 31 7 C dX0_spare_4 (by decide) rfl (fun h4 => ?_) (fun h4 => ?_)
  · exact absurd h4 (nI_pos (by have := hk.le; omega))
  · refine k_aload_n 7 8 C dX0_spare_7 rfl 0 rfl ?_
    refine k_get 8 11 C dX0_spare_8 rfl ci_X0 11 fl_X0_52 (IsDsk.o ‹_›) (by decide) rfl ?_
    refine k_rwI (hk.n) ?_
    refine k_aload_n 11 12 C dX0_spare_11 rfl 0 rfl ?_
    refine k_getF 12 15 C dX0_spare_12 rfl ci_X0 10 fl_X0_48 (IsDsk.o ‹_›) (by decide) (IsDsk.f10 ‹_›) rfl ?_
    refine k_alen 15 16 C dX0_spare_15 rfl (IsDsk.a10 ‹_›) (by decide) (v := 6) rfl ?_
    refine k_icmp_ge 16 31 19 C dX0_spare_16 (by decide) rfl (fun h16 => ?_) (fun h16 => ?_)
    · have h15b : nI 6 ≤ nI (kn S) := h16
      rw [n6 (by omega) (by have := hk.le; omega)] at h15b
      have hz : ¬ kn S < 6 := by omega
      refine k_null 31 32 C dX0_spare_31 rfl  ?_
      refine k_aret 32 C (x := none) dX0_spare_32 rfl (Or.inl ⟨_, rfl⟩) ?_
      exact ⟨rfl, by simp [hz]⟩
    · have h15b : ¬ nI 6 ≤ nI (kn S) := h16
      rw [n6 (by omega) (by have := hk.le; omega)] at h15b
      have hz : kn S < 6 := by omega
      refine k_aload_n 19 20 C dX0_spare_19 rfl 0 rfl ?_
      refine k_getF 20 23 C dX0_spare_20 rfl ci_X0 10 fl_X0_48 (IsDsk.o ‹_›) (by decide) (IsDsk.f10 ‹_›) rfl ?_
      refine k_aload_n 23 24 C dX0_spare_23 rfl 0 rfl ?_
      refine k_get 24 27 C dX0_spare_24 rfl ci_X0 11 fl_X0_52 (IsDsk.o ‹_›) (by decide) rfl ?_
      refine k_rwI (hk.n) ?_
      refine k_aald2 27 28 C dX0_spare_27 rfl (IsDsk.a10 ‹_›) (vp_in_nI hz (by decide)) ?_
      rw [nI_clamp (by omega)]
      refine k_rwQ (hk.r _ hz) ?_
      refine k_goto 28 32 C dX0_spare_28 (by decide) ?_
      refine k_aret 32 C dX0_spare_32 rfl (Or.inl ⟨_, rfl⟩) ?_
      exact ⟨rfl, by simp [hz]⟩
set_option maxHeartbeats 4000000 in
set_option maxRecDepth 100000 in
theorem ct_X0_changeSetting {E : gE} {T : gT} {l : Launch} {V : gV} {j : Nat} {v : Int32} (hj : j < 5) {D : Nat} {S : Dk} {π : Nat → Nat} (hD : IsDsk T D) (hk : DK V D S π) : CtV E T l yX0_changeSetting (gw yX0_changeSetting cX0_changeSetting 3 none) { frames := 0, cells := 0, slots := 0, locals := 0 } [.ref D, .int (nI j), .int v] V (fun (V' : gV) => DK V' D (kf S, va_up (ks S) j v, kn S, kdr S) π ∧ Off V V' D (D + 27)) := by
  refine ctV_of (L := [(0, .ref D), (1, .int (nI j)), (2, .int v)]) (by decide) rfl (Nat.le_of_ble_eq_true rfl) rfl (fun p e s m args below meth c C => ?_)
  refine k_iload_n 0 1 C dX0_changeSetting_0 rfl 1 rfl ?_
  refine k_if_lt 1 20 4 C dX0_changeSetting_1 (by decide) rfl (fun h1 => ?_) (fun h1 => ?_)
  · exact absurd h1 (nI_pos (by omega))
  · refine k_iload_n 4 5 C dX0_changeSetting_4 rfl 1 rfl ?_
    refine k_aload_n 5 6 C dX0_changeSetting_5 rfl 0 rfl ?_
    refine k_getF 6 9 C dX0_changeSetting_6 rfl ci_X0 4 fl_X0_28 (IsDsk.o ‹_›) (by decide) (IsDsk.f4 ‹_›) rfl ?_
    refine k_alen 9 10 C dX0_changeSetting_9 rfl (IsDsk.a4 ‹_›) (by decide) (v := 5) rfl ?_
    refine k_icmp_ge 10 20 13 C dX0_changeSetting_10 (by decide) rfl (fun h10 => ?_) (fun h10 => ?_)
    · exact absurd (show nI 5 ≤ nI j from h10) (by rw [nI_leI (by omega) (by omega)]; omega)
    · refine k_aload_n 13 14 C dX0_changeSetting_13 rfl 0 rfl ?_
      refine k_getF 14 17 C dX0_changeSetting_14 rfl ci_X0 4 fl_X0_28 (IsDsk.o ‹_›) (by decide) (IsDsk.f4 ‹_›) rfl ?_
      refine k_iload_n 17 18 C dX0_changeSetting_17 rfl 1 rfl ?_
      refine k_iload_n 18 19 C dX0_changeSetting_18 rfl 2 rfl ?_
      refine k_iast 19 20 C dX0_changeSetting_19 rfl (IsDsk.a4 ‹_›) (vp_in_nI hj (by decide)) ?_
      rw [nI_clamp (by omega)]
      refine k_vret 20 C dX0_changeSetting_20 rfl ?_
      exact ⟨hk.stg hj, by repeat (first | exact Off.rf | refine Off.wI ?_ (by omega) (by omega) | refine Off.wL ?_ (by omega) (by omega) | refine Off.wR ?_ (by omega) (by omega))⟩
set_option maxHeartbeats 4000000 in
set_option maxRecDepth 100000 in
theorem ct_X0_signX {E : gE} {T : gT} {l : Launch} {V : gV} {D : Nat} {S : Dk} {π : Nat → Nat} (hD : IsDsk T D) (hk : DK V D S π) : CtI E T l yX0_signX (gw yX0_signX cX0_signX 1 (some .int)) { frames := 1, cells := 0, slots := 0, locals := 21 } [.ref D] V (fun (r : Int32) (V' : gV) => V' = V ∧ r = sgX S) := by
  refine ctI_of (L := [(0, .ref D)]) (by decide) rfl (Nat.le_of_ble_eq_true rfl) rfl (fun p e s m args below meth c C => ?_)
  refine k_aload_n 0 1 C dX0_signX_0 rfl 0 rfl ?_
  refine k_iconst 1 2 C dX0_signX_1 rfl (v := 0) rfl ?_
  refine k_callVI 2 5 C [_] [] dX0_signX_2 rfl (ct_X0_setting hD hk) mi_X0_setting ml_X0_56 im_X0_setting se_X0_setting ci_X0 (IsDsk.o ‹_›) rfl rfl ⟨Nat.le_of_ble_eq_true rfl, Nat.le_of_ble_eq_true rfl⟩ (Nat.le_of_ble_eq_true rfl) (Nat.zero_le _) (Nat.zero_le _) (fun r2 V2 p2 => ?_)
  obtain ⟨rfl, rfl⟩ := And.intro p2.1.symm p2.2
  refine k_rwI (show sSet S 0 = ks S 0 from rfl) ?_
  refine k_if_ne 5 12 8 C dX0_signX_5 (by decide) rfl (fun h5 => ?_) (fun h5 => ?_)
  · refine k_iconst 12 13 C dX0_signX_12 rfl (v := (-1)) rfl ?_
    refine k_iret 13 C dX0_signX_13 rfl ?_
    exact ⟨rfl, by simp [sgX, h5]⟩
  · refine k_iconst 8 9 C dX0_signX_8 rfl (v := 1) rfl ?_
    refine k_goto 9 13 C dX0_signX_9 (by decide) ?_
    refine k_iret 13 C dX0_signX_13 rfl ?_
    exact ⟨rfl, by simp [sgX, h5]⟩
set_option maxHeartbeats 4000000 in
set_option maxRecDepth 100000 in
theorem ct_X0_signY {E : gE} {T : gT} {l : Launch} {V : gV} {D : Nat} {S : Dk} {π : Nat → Nat} (hD : IsDsk T D) (hk : DK V D S π) : CtI E T l yX0_signY (gw yX0_signY cX0_signY 1 (some .int)) { frames := 1, cells := 0, slots := 0, locals := 21 } [.ref D] V (fun (r : Int32) (V' : gV) => V' = V ∧ r = sgY S) := by
  refine ctI_of (L := [(0, .ref D)]) (by decide) rfl (Nat.le_of_ble_eq_true rfl) rfl (fun p e s m args below meth c C => ?_)
  refine k_aload_n 0 1 C dX0_signY_0 rfl 0 rfl ?_
  refine k_iconst 1 2 C dX0_signY_1 rfl (v := 0) rfl ?_
  refine k_callVI 2 5 C [_] [] dX0_signY_2 rfl (ct_X0_setting hD hk) mi_X0_setting ml_X0_56 im_X0_setting se_X0_setting ci_X0 (IsDsk.o ‹_›) rfl rfl ⟨Nat.le_of_ble_eq_true rfl, Nat.le_of_ble_eq_true rfl⟩ (Nat.le_of_ble_eq_true rfl) (Nat.zero_le _) (Nat.zero_le _) (fun r2 V2 p2 => ?_)
  obtain ⟨rfl, rfl⟩ := And.intro p2.1.symm p2.2
  refine k_rwI (show sSet S 0 = ks S 0 from rfl) ?_
  refine k_iconst 5 6 C dX0_signY_5 rfl (v := 1) rfl ?_
  refine k_icmp_ne 6 13 9 C dX0_signY_6 (by decide) rfl (fun h6 => ?_) (fun h6 => ?_)
  · refine k_iconst 13 14 C dX0_signY_13 rfl (v := 1) rfl ?_
    refine k_iret 14 C dX0_signY_14 rfl ?_
    exact ⟨rfl, by simp [sgY, h6]⟩
  · refine k_iconst 9 10 C dX0_signY_9 rfl (v := (-1)) rfl ?_
    refine k_goto 10 14 C dX0_signY_10 (by decide) ?_
    refine k_iret 14 C dX0_signY_14 rfl ?_
    exact ⟨rfl, by simp [sgY, h6]⟩
set_option maxHeartbeats 4000000 in
set_option maxRecDepth 100000 in
theorem ct_X0_follow {E : gE} {T : gT} {l : Launch} {V : gV} {a b d : Int64} : CtL E T l yX0_follow (gw yX0_follow cX0_follow 6 (some .long)) { frames := 0, cells := 0, slots := 0, locals := 0 } [.long a, .long b, .long d] V (fun (r : Int64) (V' : gV) => V' = V ∧ r = sFol a b d) := by
  refine ctL_of (L := [(0, .long a), (2, .long b), (4, .long d)]) (by decide) rfl (Nat.le_of_ble_eq_true rfl) rfl (fun p e s m args below meth c C => ?_)
  refine k_lload_n 0 1 C dX0_follow_0 rfl 1 rfl ?_
  refine k_lload_n 1 2 C dX0_follow_1 rfl 0 rfl ?_
  refine k_lload 2 4 C dX0_follow_2 rfl 2 rfl ?_
  refine k_ladd 4 5 C dX0_follow_4 rfl  ?_
  refine k_lcmp_le 5 6 14 9 C dX0_follow_5 rfl dX0_follow_6 (by decide) rfl (fun h6 => ?_) (fun h6 => ?_)
  · refine k_lload_n 14 15 C dX0_follow_14 rfl 1 rfl ?_
    refine k_lload_n 15 16 C dX0_follow_15 rfl 0 rfl ?_
    refine k_lload 16 18 C dX0_follow_16 rfl 2 rfl ?_
    refine k_lsub 18 19 C dX0_follow_18 rfl  ?_
    refine k_lcmp_ge 19 20 28 23 C dX0_follow_19 rfl dX0_follow_20 (by decide) rfl (fun h20 => ?_) (fun h20 => ?_)
    · refine k_lload_n 28 29 C dX0_follow_28 rfl 0 rfl ?_
      refine k_lret 29 C dX0_follow_29 rfl ?_
      exact ⟨rfl, by simp only [sFol]; first | rw [if_pos (i64_not_le.mp h6)] | rw [if_neg (i64_not_lt.mpr h6), if_pos (i64_not_le.mp h20)] | rw [if_neg (i64_not_lt.mpr h6), if_neg (i64_not_lt.mpr h20)]⟩
    · refine k_lload_n 23 24 C dX0_follow_23 rfl 1 rfl ?_
      refine k_lload 24 26 C dX0_follow_24 rfl 2 rfl ?_
      refine k_ladd 26 27 C dX0_follow_26 rfl  ?_
      refine k_lret 27 C dX0_follow_27 rfl ?_
      exact ⟨rfl, by simp only [sFol]; first | rw [if_pos (i64_not_le.mp h6)] | rw [if_neg (i64_not_lt.mpr h6), if_pos (i64_not_le.mp h20)] | rw [if_neg (i64_not_lt.mpr h6), if_neg (i64_not_lt.mpr h20)]⟩
  · refine k_lload_n 9 10 C dX0_follow_9 rfl 1 rfl ?_
    refine k_lload 10 12 C dX0_follow_10 rfl 2 rfl ?_
    refine k_lsub 12 13 C dX0_follow_12 rfl  ?_
    refine k_lret 13 C dX0_follow_13 rfl ?_
    exact ⟨rfl, by simp only [sFol]; first | rw [if_pos (i64_not_le.mp h6)] | rw [if_neg (i64_not_lt.mpr h6), if_pos (i64_not_le.mp h20)] | rw [if_neg (i64_not_lt.mpr h6), if_neg (i64_not_lt.mpr h20)]⟩
set_option maxHeartbeats 4000000 in
set_option maxRecDepth 100000 in
theorem ct_X0_aim {E : gE} {T : gT} {l : Launch} {V : gV} {a b : Int64} {d f : Int32} {D : Nat} {S : Dk} {π : Nat → Nat} (hD : IsDsk T D) (hk : DK V D S π) : CtL E T l yX0_aim (gw yX0_aim cX0_aim 7 (some .long)) { frames := 0, cells := 0, slots := 0, locals := 0 } [.ref D, .long a, .long b, .int d, .int f] V (fun (r : Int64) (V' : gV) => V' = V ∧ r = sAim S a b d f) := by
  refine ctL_of (L := [(0, .ref D), (1, .long a), (3, .long b), (5, .int d), (6, .int f)]) (by decide) rfl (Nat.le_of_ble_eq_true rfl) rfl (fun p e s m args below meth c C => ?_)
  refine k_iload 0 2 C dX0_aim_0 rfl 3 rfl ?_
  refine k_i2l 2 3 C dX0_aim_2 rfl  ?_
  refine k_lload_n 3 4 C dX0_aim_3 rfl 2 rfl ?_
  refine k_lmul 4 5 C dX0_aim_4 rfl  ?_
  refine k_aload_n 5 6 C dX0_aim_5 rfl 0 rfl ?_
  refine k_get 6 9 C dX0_aim_6 rfl ci_X0 1 fl_X0_15 (IsDsk.o ‹_›) (by decide) rfl ?_
  refine k_rwI (hk.f 1 (by decide) (by decide)) ?_
  refine k_i2l 9 10 C dX0_aim_9 rfl  ?_
  refine k_lmul 10 11 C dX0_aim_10 rfl  ?_
  refine k_iload 11 13 C dX0_aim_11 rfl 4 rfl ?_
  refine k_aload_n 13 14 C dX0_aim_13 rfl 0 rfl ?_
  refine k_get 14 17 C dX0_aim_14 rfl ci_X0 0 fl_X0_9 (IsDsk.o ‹_›) (by decide) rfl ?_
  refine k_rwI (hk.f 0 (by decide) (by decide)) ?_
  refine k_imul 17 18 C dX0_aim_17 rfl  ?_
  refine k_i2l 18 19 C dX0_aim_18 rfl  ?_
  refine k_lload_n 19 20 C dX0_aim_19 rfl 1 rfl ?_
  refine k_iload 20 22 C dX0_aim_20 rfl 3 rfl ?_
  refine k_i2l 22 23 C dX0_aim_22 rfl  ?_
  refine k_lload_n 23 24 C dX0_aim_23 rfl 2 rfl ?_
  refine k_lmul 24 25 C dX0_aim_24 rfl  ?_
  refine k_lsub 25 26 C dX0_aim_25 rfl  ?_
  refine k_lmul 26 27 C dX0_aim_26 rfl  ?_
  refine k_ladd 27 28 C dX0_aim_27 rfl  ?_
  refine k_lret 28 C dX0_aim_28 rfl ?_
  exact ⟨rfl, rfl⟩
set_option maxHeartbeats 4000000 in
set_option maxRecDepth 100000 in
theorem ct_X0_wornWidth {E : gE} {T : gT} {l : Launch} {V : gV} {D : Nat} {S : Dk} {π : Nat → Nat} (hD : IsDsk T D) (hk : DK V D S π) : CtI E T l yX0_wornWidth (gw yX0_wornWidth cX0_wornWidth 1 (some .int)) { frames := 1, cells := 0, slots := 0, locals := 23 } [.ref D] V (fun (r : Int32) (V' : gV) => V' = V ∧ r = sWorn S) := by
  refine ctI_of (L := [(0, .ref D)]) (by decide) rfl (Nat.le_of_ble_eq_true rfl) rfl (fun p e s m args below meth c C => ?_)
  refine k_iconst 0 1 C dX0_wornWidth_0 rfl (v := 1) rfl ?_
  refine k_aload_n 1 2 C dX0_wornWidth_1 rfl 0 rfl ?_
  refine k_get 2 5 C dX0_wornWidth_2 rfl ci_X0 5 fl_X0_31 (IsDsk.o ‹_›) (by decide) rfl ?_
  refine k_rwI (hk.f 5 (by decide) (by decide)) ?_
  refine k_i2l 5 6 C dX0_wornWidth_5 rfl  ?_
  refine k_aload_n 6 7 C dX0_wornWidth_6 rfl 0 rfl ?_
  refine k_iconst 7 8 C dX0_wornWidth_7 rfl (v := 4) rfl ?_
  refine k_callVI 8 11 C [_] [_, _] dX0_wornWidth_8 rfl (ct_X0_setting hD hk) mi_X0_setting ml_X0_56 im_X0_setting se_X0_setting ci_X0 (IsDsk.o ‹_›) rfl rfl ⟨Nat.le_of_ble_eq_true rfl, Nat.le_of_ble_eq_true rfl⟩ (Nat.le_of_ble_eq_true rfl) (Nat.zero_le _) (Nat.zero_le _) (fun r8 V8 p8 => ?_)
  obtain ⟨rfl, rfl⟩ := And.intro p8.1.symm p8.2
  refine k_rwI (show sSet S 4 = ks S 4 from rfl) ?_
  refine k_i2l 11 12 C dX0_wornWidth_11 rfl  ?_
  refine k_callSNL 12 15 C [_, _] [_] dX0_wornWidth_12 rfl ct_X3_quotient mi_X3_quotient mn_X0_99 st_X3_quotient rfl rfl ⟨Nat.le_of_ble_eq_true rfl, Nat.le_of_ble_eq_true rfl⟩ (Nat.le_of_ble_eq_true rfl) (Nat.zero_le _) (Nat.zero_le _) (fun r12 V12 p12 => ?_)
  obtain ⟨rfl, rfl⟩ := And.intro p12.1.symm p12.2
  refine k_l2i 15 16 C dX0_wornWidth_15 rfl  ?_
  refine k_iadd 16 17 C dX0_wornWidth_16 rfl  ?_
  refine k_iret 17 C dX0_wornWidth_17 rfl ?_
  exact ⟨rfl, rfl⟩
set_option maxHeartbeats 4000000 in
set_option maxRecDepth 100000 in
theorem ct_X0_isBlunt {E : gE} {T : gT} {l : Launch} {V : gV} {D : Nat} {S : Dk} {π : Nat → Nat} (hD : IsDsk T D) (hk : DK V D S π) : CtI E T l yX0_isBlunt (gw yX0_isBlunt cX0_isBlunt 1 (some .boolean)) { frames := 2, cells := 0, slots := 0, locals := 43 } [.ref D] V (fun (r : Int32) (V' : gV) => V' = V ∧ r = bi (¬ sWorn S ≤ 9)) := by
  refine ctI_of (L := [(0, .ref D)]) (by decide) rfl (Nat.le_of_ble_eq_true rfl) rfl (fun p e s m args below meth c C => ?_)
  refine k_aload_n 0 1 C dX0_isBlunt_0 rfl 0 rfl ?_
  refine k_callVI 1 4 C [] [] dX0_isBlunt_1 rfl (ct_X0_wornWidth hD hk) mi_X0_wornWidth ml_X0_103 im_X0_wornWidth se_X0_wornWidth ci_X0 (IsDsk.o ‹_›) rfl rfl ⟨Nat.le_of_ble_eq_true rfl, Nat.le_of_ble_eq_true rfl⟩ (Nat.le_of_ble_eq_true rfl) (Nat.zero_le _) (Nat.zero_le _) (fun r1 V1 p1 => ?_)
  obtain ⟨rfl, rfl⟩ := And.intro p1.1.symm p1.2
  refine k_bipush 4 6 C dX0_isBlunt_4 rfl (v := 9) rfl ?_
  refine k_icmp_le 6 13 9 C dX0_isBlunt_6 (by decide) rfl (fun h6 => ?_) (fun h6 => ?_)
  · refine k_iconst 13 14 C dX0_isBlunt_13 rfl (v := 0) rfl ?_
    refine k_zret 14 C dX0_isBlunt_14 rfl (by first | exact Or.inl rfl | exact Or.inr rfl | exact bi_01) ?_
    exact ⟨rfl, by simp [bi, h6]⟩
  · refine k_iconst 9 10 C dX0_isBlunt_9 rfl (v := 1) rfl ?_
    refine k_goto 10 14 C dX0_isBlunt_10 (by decide) ?_
    refine k_zret 14 C dX0_isBlunt_14 rfl (by first | exact Or.inl rfl | exact Or.inr rfl | exact bi_01) ?_
    exact ⟨rfl, by simp [bi, h6]⟩
set_option maxHeartbeats 4000000 in
set_option maxRecDepth 100000 in
theorem ct_X0_hasCopies {E : gE} {T : gT} {l : Launch} {V : gV} {num : Int32} {D : Nat} {S : Dk} {π : Nat → Nat} (hD : IsDsk T D) (hk : DK V D S π) : CtI E T l yX0_hasCopies (gw yX0_hasCopies cX0_hasCopies 4 (some .boolean)) { frames := 1, cells := 0, slots := 0, locals := 21 } [.ref D, .int num] V (fun (r : Int32) (V' : gV) => V' = V ∧ r = bi (hcp S num (kn S) = true)) := by
  refine ctI_of (L := [(0, .ref D), (1, .int num)]) (by decide) rfl (Nat.le_of_ble_eq_true rfl) rfl (fun p e s m args below meth c C => ?_)
  have loop2 : ∀ (f : Nat) (j : Nat), kn S - j = f → (j ≤ kn S) → (hcp S num j = false) → KW E T V p l e { frames := 1, cells := 0, slots := 0, locals := 21 } s m args below meth c 4 0 0 (MQ below (va_Qi (fun (r : Int32) (V' : gV) => V' = V ∧ r = bi (hcp S num (kn S) = true)) (RepS E T) (gA E)) args s 0 0 (gA E)) 2 [(2, .int (nI j)), (0, .ref D), (1, .int num)] [] := by
    intro f
    induction f using Nat.strongRecOn with
    | _ f ih =>
    intro j hf hj hc
    refine k_iload_n 2 3 C dX0_hasCopies_2 rfl 0 rfl ?_
    refine k_aload_n 3 4 C dX0_hasCopies_3 rfl 1 rfl ?_
    refine k_get 4 7 C dX0_hasCopies_4 rfl ci_X0 11 fl_X0_52 (IsDsk.o ‹_›) (by decide) rfl ?_
    refine k_rwI (hk.n) ?_
    refine k_icmp_ge 7 36 10 C dX0_hasCopies_7 (by decide) rfl (fun h7 => ?_) (fun h7 => ?_)
    · rw [n6 (by have := hk.le; omega) (by have := hk.le; omega)] at h7
      obtain rfl : j = kn S := by omega
      refine k_iconst 36 37 C dX0_hasCopies_36 rfl (v := 0) rfl ?_
      refine k_zret 37 C dX0_hasCopies_37 rfl (by first | exact Or.inl rfl | exact Or.inr rfl | exact bi_01) ?_
      exact ⟨rfl, (bi_f (by simp [hc])).symm⟩
    · rw [n6 (by have := hk.le; omega) (by have := hk.le; omega)] at h7
      have hj2 : j < kn S := by omega
      have hq := hD.d (π j) (hk.p j (by have := hk.le; omega))
      have hv := hk.d j hj2
      refine k_aload_n 10 11 C dX0_hasCopies_10 rfl 1 rfl ?_
      refine k_iload_n 11 12 C dX0_hasCopies_11 rfl 0 rfl ?_
      refine k_callVQ 12 15 C [_] [] dX0_hasCopies_12 rfl (ct_X0_find hD hk) mi_X0_find ml_X0_60 im_X0_find se_X0_find ci_X0 (IsDsk.o ‹_›) rfl rfl ⟨Nat.le_of_ble_eq_true rfl, Nat.le_of_ble_eq_true rfl⟩ (Nat.le_of_ble_eq_true rfl) (Nat.zero_le _) (Nat.zero_le _) (fun r12 V12 p12 => ?_)
      obtain ⟨rfl, rfl⟩ := And.intro p12.1.symm p12.2
      refine k_rwQ (sFind_at hk.le hj2) ?_
      refine k_astore_n 15 16 C [(3, _), (2, _), (0, _), (1, _)] dX0_hasCopies_15 rfl (by decide) rfl ?_
      refine k_aload_n 16 17 C dX0_hasCopies_16 rfl 0 rfl ?_
      refine k_ifnullO 17 20 C dX0_hasCopies_17 rfl ?_
      refine k_aload_n 20 21 C dX0_hasCopies_20 rfl 0 rfl ?_
      refine k_getN 21 24 C dX0_hasCopies_21 rfl ci_X1 0 fn_X0_76 (IsDrw.o hq) (by decide) rfl ?_
      refine k_rwI (hv.f0) ?_
      refine k_iload_n 24 25 C dX0_hasCopies_24 rfl 3 rfl ?_
      refine k_icmp_ne 25 30 28 C dX0_hasCopies_25 (by decide) rfl (fun h25 => ?_) (fun h25 => ?_)
      · refine k_iinc 30 33 C [(2, _), (3, _), (0, _), (1, _)] (nI (j + 1)) dX0_hasCopies_30 rfl 1 rfl (nI_1 j) (by decide) rfl ?_
        refine k_goto 33 2 C dX0_hasCopies_33 (by decide) ?_
        refine k_perm [0, 2, 3] (L' := [(2, _), (0, _), (1, _)]) rfl ?_
        exact ih (kn S - (j + 1)) (by omega) (j + 1) rfl (by omega) (by simp [hcp, hc, h25])
      · refine k_iconst 28 29 C dX0_hasCopies_28 rfl (v := 1) rfl ?_
        refine k_zret 29 C dX0_hasCopies_29 rfl (by first | exact Or.inl rfl | exact Or.inr rfl | exact bi_01) ?_
        exact ⟨rfl, (bi_t (hcp_mono hj2 (by simpa using h25))).symm⟩
  refine k_iconst 0 1 C dX0_hasCopies_0 rfl (v := 0) rfl ?_
  refine k_istore_n 1 2 C [(2, _), (0, _), (1, _)] dX0_hasCopies_1 rfl (by decide) rfl ?_
  exact loop2 _ 0 rfl (Nat.zero_le _) rfl
end
section
theorem orgF_out {S : Dk} {k : Nat} {a : Int32} (h : ¬ (¬ a < 0 ∧ ¬ nI (kn S) ≤ a)) : orgF S (k + 1) a = a := by
  simp only [orgF]; rw [if_neg (fun z => h z.1)]
theorem jin {n j : Nat} (hn : n ≤ 6) (hj : j < n) : ¬ nI j < 0 ∧ ¬ nI n ≤ nI j := ⟨nI_pos (by omega), by rw [n6 (by omega) (by omega)]; omega⟩
theorem orgF_org {S : Dk} {k j : Nat} (h : rpa (kdr S j) = -1) (hj : j < 6) : orgF S (k + 1) (nI j) = nI j := by
  simp only [orgF]; rw [nI_clamp (show j < 2 ^ 31 by omega)]; rw [if_neg (fun z => z.2 h)]
theorem orgF_cp {S : Dk} {k j : Nat} (hn : kn S ≤ 6) (hj : j < kn S) (h : ¬ rpa (kdr S j) = -1) : orgF S (k + 1) (nI j) = orgF S k (rpa (kdr S j)) := by
  simp only [orgF]; rw [nI_clamp (show j < 2 ^ 31 by omega)]; rw [if_pos ⟨jin hn hj, h⟩]
theorem stpF_out {S : Dk} {k i : Nat} {a : Int32} (h : ¬ (¬ a < 0 ∧ ¬ nI (kn S) ≤ a)) : stpF S (k + 1) i a = nI i := by
  simp only [stpF]; rw [if_neg (fun z => h z.1)]
theorem stpF_org {S : Dk} {k i j : Nat} (h : rpa (kdr S j) = -1) (hj : j < 6) : stpF S (k + 1) i (nI j) = nI i := by
  simp only [stpF]; rw [nI_clamp (show j < 2 ^ 31 by omega)]; rw [if_neg (fun z => z.2 h)]
theorem stpF_cp {S : Dk} {k i j : Nat} (hn : kn S ≤ 6) (hj : j < kn S) (h : ¬ rpa (kdr S j) = -1) : stpF S (k + 1) i (nI j) = stpF S k (i + 1) (rpa (kdr S j)) := by
  simp only [stpF]; rw [nI_clamp (show j < 2 ^ 31 by omega)]; rw [if_pos ⟨jin hn hj, h⟩]
theorem DK.grow {V : gV} {D : Nat} {S : Dk} {π : Nat → Nat} {d' : Dr} (h : DK V D S π) (hn : kn S < 6) (hd : DV V (D + 3 + 4 * π (kn S)) d') (hw : dW d') : DK (wI V D 11 (nI (kn S + 1))) D (kf S, ks S, kn S + 1, va_up (kdr S) (kn S) d') π := by
  obtain ⟨h1, h2, h3, h4, h5, h6, h7⟩ := h
  have ho : ∀ b, b ≠ D → (wI V D 11 (nI (kn S + 1))).1 b = V.1 b := fun b hb => (wI_off b hb).1
  have hoff : Off V (wI V D 11 (nI (kn S + 1))) D (D + 1) := Off.rf.wI (Nat.le_refl D) (by omega)
  refine ⟨fun i a b => ?_, fun i a => by rw [ho (D + 1) (by omega)]; exact h2 i a, ?_, by show kn S + 1 ≤ 6; omega, h5, h6, fun k a => ?_⟩
  · show (wI V D 11 _).1 D i = kf S i
    simp only [wI, upd, if_true, show ¬ i = 11 by omega, if_false]; exact h1 i a b
  · show (wI V D 11 _).1 D 11 = nI (kn S + 1)
    simp [wI, upd]
  · have a' : k < kn S + 1 := a
    by_cases ek : k = kn S
    · subst ek
      show DV _ _ (va_up _ _ _ _) ∧ dW (va_up _ _ _ _)
      rw [va_up_self]
      exact ⟨hd.off hoff (by omega), hw⟩
    · show DV _ _ (va_up _ _ _ _) ∧ dW (va_up _ _ _ _)
      rw [va_up_ne _ _ ek]
      exact ⟨(h7 k (by omega)).1.off hoff (by omega), (h7 k (by omega)).2⟩
/-- one line of a copy that is kept: the desk, the drawing -/
def lnS (S : Dk) (d : Dr) (i : Nat) : Dk := if vL d (nI i) = -1 then S else if ¬ (onB S d (nI i - 1) = true ∧ onB S d (nI i) = true) then (va_up (kf S) 9 (kf S 9 + 1), ks S, kn S, kdr S) else (va_up (va_up (va_up (kf S) 5 (kf S 5 + vLen d (nI i))) 7 (kf S 7 + 1)) 8 (kf S 8 + vLen d (nI i)), ks S, kn S, kdr S)
def lnD (S : Dk) (d : Dr) (i : Nat) : Dr := if vL d (nI i) = -1 then d else if ¬ (onB S d (nI i - 1) = true ∧ onB S d (nI i) = true) then d else dLine d i (if 9 < sWorn S then 9 else sWorn S)
def lnAll (S : Dk) (d : Dr) : Nat → Dk × Dr
  | 0 => (S, d)
  | i + 1 => (lnS (lnAll S d i).1 (lnAll S d i).2 i, lnD (lnAll S d i).1 (lnAll S d i).2 i)
set_option maxHeartbeats 4000000 in
set_option maxRecDepth 100000 in
theorem ct_X0_originalOf {E : gE} {T : gT} {l : Launch} {V : gV} {num : Int32} {D : Nat} {S : Dk} {π : Nat → Nat} (hD : IsDsk T D) (hk : DK V D S π) : CtI E T l yX0_originalOf (gw yX0_originalOf cX0_originalOf 5 (some .int)) { frames := 1, cells := 0, slots := 0, locals := 21 } [.ref D, .int num] V (fun (r : Int32) (V' : gV) => V' = V ∧ r = orgF S 6 num) := by
  refine ctI_of (L := [(0, .ref D), (1, .int num)]) (by decide) rfl (Nat.le_of_ble_eq_true rfl) rfl (fun p e s m args below meth c C => ?_)
  have loop4 : ∀ (f : Nat) (i : Nat) (at_ : Int32), 6 - i = f → (i ≤ 6) → (orgF S (6 - i) at_ = orgF S 6 num) → KW E T V p l e { frames := 1, cells := 0, slots := 0, locals := 21 } s m args below meth c 5 0 0 (MQ below (va_Qi (fun (r : Int32) (V' : gV) => V' = V ∧ r = orgF S 6 num) (RepS E T) (gA E)) args s 0 0 (gA E)) 4 [(3, .int (nI i)), (2, .int at_), (0, .ref D), (1, .int num)] [] := by
    intro f
    induction f using Nat.strongRecOn with
    | _ f ih =>
    intro i at_ hf hi hg
    refine k_iload_n 4 5 C dX0_originalOf_4 rfl 0 rfl ?_
    refine k_bipush 5 7 C dX0_originalOf_5 rfl (v := 6) rfl ?_
    refine k_icmp_ge 7 44 10 C dX0_originalOf_7 (by decide) rfl (fun h7 => ?_) (fun h7 => ?_)
    · have z7 : nI 6 ≤ nI i := h7
      rw [n6 (by omega) (by omega)] at z7
      obtain rfl : i = 6 := by omega
      refine k_iload_n 44 45 C dX0_originalOf_44 rfl 1 rfl ?_
      refine k_iret 45 C dX0_originalOf_45 rfl ?_
      exact ⟨rfl, hg⟩
    · have z7 : ¬ nI 6 ≤ nI i := h7
      rw [n6 (by omega) (by omega)] at z7
      rw [show 6 - i = (6 - (i + 1)) + 1 by omega] at hg
      refine k_aload_n 10 11 C dX0_originalOf_10 rfl 2 rfl ?_
      refine k_iload_n 11 12 C dX0_originalOf_11 rfl 1 rfl ?_
      refine k_callVQ 12 15 C [_] [] dX0_originalOf_12 rfl (ct_X0_find hD hk) mi_X0_find ml_X0_60 im_X0_find se_X0_find ci_X0 (IsDsk.o ‹_›) rfl rfl ⟨Nat.le_of_ble_eq_true rfl, Nat.le_of_ble_eq_true rfl⟩ (Nat.le_of_ble_eq_true rfl) (Nat.zero_le _) (Nat.zero_le _) (fun r12 V12 p12 => ?_)
      obtain ⟨rfl, rfl⟩ := And.intro p12.1.symm p12.2
      rcases sFind_cases D S π hk.le at_ with ⟨zc, zr⟩ | ⟨zj, zl, rfl, zr⟩
      · refine k_rwQ zr ?_
        refine k_astoreq 15 17 C [(4, _), (3, _), (2, _), (0, _), (1, _)] dX0_originalOf_15 rfl (by decide) rfl ?_
        refine k_aloadq 17 19 C dX0_originalOf_17 rfl 0 rfl ?_
        refine k_ifnullN 19 30 C dX0_originalOf_19 (by decide) ?_
        refine k_iload_n 30 31 C dX0_originalOf_30 rfl 2 rfl ?_
        refine k_iret 31 C dX0_originalOf_31 rfl ?_
        first | exact ⟨rfl, (orgF_out zc).symm.trans hg⟩ | exact ⟨rfl, (orgF_org (Classical.not_not.mp h27) (by have := hk.le; omega)).symm.trans hg⟩
      · refine k_rwQ zr ?_
        have zq := hD.d (π zj) (hk.p zj (by have := hk.le; omega))
        have zv := hk.d zj zl
        refine k_astore 15 17 C [(4, _), (3, _), (2, _), (0, _), (1, _)] dX0_originalOf_15 rfl (by decide) rfl ?_
        refine k_aload 17 19 C dX0_originalOf_17 rfl 0 rfl ?_
        refine k_ifnullO 19 22 C dX0_originalOf_19 rfl ?_
        refine k_aload 22 24 C dX0_originalOf_22 rfl 0 rfl ?_
        refine k_callVI 24 27 C [] [] dX0_originalOf_24 rfl (ct_X1_isCopy zq zv) mi_X1_isCopy ml_X0_79 im_X1_isCopy se_X1_isCopy ci_X1 (IsDrw.o zq) rfl rfl ⟨Nat.le_of_ble_eq_true rfl, Nat.le_of_ble_eq_true rfl⟩ (Nat.le_of_ble_eq_true rfl) (Nat.zero_le _) (Nat.zero_le _) (fun r24 V24 p24 => ?_)
        obtain ⟨rfl, rfl⟩ := And.intro p24.1.symm p24.2
        refine k_ifb_ne 27 32 30 C dX0_originalOf_27 (by decide) rfl (fun h27 => ?_) (fun h27 => ?_)
        · refine k_aload 32 34 C dX0_originalOf_32 rfl 0 rfl ?_
          refine k_getN 34 37 C dX0_originalOf_34 rfl ci_X1 0 fn_X0_76 (IsDrw.o zq) (by decide) rfl ?_
          refine k_rwI (zv.f0) ?_
          refine k_istore_n 37 38 C [(2, _), (4, _), (3, _), (0, _), (1, _)] dX0_originalOf_37 rfl (by decide) rfl ?_
          refine k_iinc 38 41 C [(3, _), (2, _), (4, _), (0, _), (1, _)] (nI (i + 1)) dX0_originalOf_38 rfl 2 rfl (nI_1 i) (by decide) rfl ?_
          refine k_goto 41 4 C dX0_originalOf_41 (by decide) ?_
          refine k_perm [0, 1, 3, 4] (L' := [(3, _), (2, _), (0, _), (1, _)]) rfl ?_
          exact ih (6 - (i + 1)) (by omega) (i + 1) (rpa (kdr S zj)) rfl (by omega) ((orgF_cp hk.le zl h27).symm.trans hg)
        · refine k_iload_n 30 31 C dX0_originalOf_30 rfl 2 rfl ?_
          refine k_iret 31 C dX0_originalOf_31 rfl ?_
          first | exact ⟨rfl, (orgF_out zc).symm.trans hg⟩ | exact ⟨rfl, (orgF_org (Classical.not_not.mp h27) (by have := hk.le; omega)).symm.trans hg⟩
  refine k_iload_n 0 1 C dX0_originalOf_0 rfl 1 rfl ?_
  refine k_istore_n 1 2 C [(2, _), (0, _), (1, _)] dX0_originalOf_1 rfl (by decide) rfl ?_
  refine k_iconst 2 3 C dX0_originalOf_2 rfl (v := 0) rfl ?_
  refine k_istore_n 3 4 C [(3, _), (2, _), (0, _), (1, _)] dX0_originalOf_3 rfl (by decide) rfl ?_
  exact loop4 _ 0 num rfl (Nat.zero_le _) rfl
set_option maxHeartbeats 4000000 in
set_option maxRecDepth 100000 in
theorem ct_X0_stepsOf {E : gE} {T : gT} {l : Launch} {V : gV} {num : Int32} {D : Nat} {S : Dk} {π : Nat → Nat} (hD : IsDsk T D) (hk : DK V D S π) : CtI E T l yX0_stepsOf (gw yX0_stepsOf cX0_stepsOf 5 (some .int)) { frames := 1, cells := 0, slots := 0, locals := 21 } [.ref D, .int num] V (fun (r : Int32) (V' : gV) => V' = V ∧ r = stpF S 6 0 num) := by
  refine ctI_of (L := [(0, .ref D), (1, .int num)]) (by decide) rfl (Nat.le_of_ble_eq_true rfl) rfl (fun p e s m args below meth c C => ?_)
  have loop4 : ∀ (f : Nat) (i : Nat) (at_ : Int32), 6 - i = f → (i ≤ 6) → (stpF S (6 - i) i at_ = stpF S 6 0 num) → KW E T V p l e { frames := 1, cells := 0, slots := 0, locals := 21 } s m args below meth c 5 0 0 (MQ below (va_Qi (fun (r : Int32) (V' : gV) => V' = V ∧ r = stpF S 6 0 num) (RepS E T) (gA E)) args s 0 0 (gA E)) 4 [(3, .int (nI i)), (2, .int at_), (0, .ref D), (1, .int num)] [] := by
    intro f
    induction f using Nat.strongRecOn with
    | _ f ih =>
    intro i at_ hf hi hg
    refine k_iload_n 4 5 C dX0_stepsOf_4 rfl 0 rfl ?_
    refine k_bipush 5 7 C dX0_stepsOf_5 rfl (v := 6) rfl ?_
    refine k_icmp_ge 7 44 10 C dX0_stepsOf_7 (by decide) rfl (fun h7 => ?_) (fun h7 => ?_)
    · have z7 : nI 6 ≤ nI i := h7
      rw [n6 (by omega) (by omega)] at z7
      obtain rfl : i = 6 := by omega
      refine k_bipush 44 46 C dX0_stepsOf_44 rfl (v := 6) rfl ?_
      refine k_iret 46 C dX0_stepsOf_46 rfl ?_
      exact ⟨rfl, hg⟩
    · have z7 : ¬ nI 6 ≤ nI i := h7
      rw [n6 (by omega) (by omega)] at z7
      rw [show 6 - i = (6 - (i + 1)) + 1 by omega] at hg
      refine k_aload_n 10 11 C dX0_stepsOf_10 rfl 2 rfl ?_
      refine k_iload_n 11 12 C dX0_stepsOf_11 rfl 1 rfl ?_
      refine k_callVQ 12 15 C [_] [] dX0_stepsOf_12 rfl (ct_X0_find hD hk) mi_X0_find ml_X0_60 im_X0_find se_X0_find ci_X0 (IsDsk.o ‹_›) rfl rfl ⟨Nat.le_of_ble_eq_true rfl, Nat.le_of_ble_eq_true rfl⟩ (Nat.le_of_ble_eq_true rfl) (Nat.zero_le _) (Nat.zero_le _) (fun r12 V12 p12 => ?_)
      obtain ⟨rfl, rfl⟩ := And.intro p12.1.symm p12.2
      rcases sFind_cases D S π hk.le at_ with ⟨zc, zr⟩ | ⟨zj, zl, rfl, zr⟩
      · refine k_rwQ zr ?_
        refine k_astoreq 15 17 C [(4, _), (3, _), (2, _), (0, _), (1, _)] dX0_stepsOf_15 rfl (by decide) rfl ?_
        refine k_aloadq 17 19 C dX0_stepsOf_17 rfl 0 rfl ?_
        refine k_ifnullN 19 30 C dX0_stepsOf_19 (by decide) ?_
        refine k_iload_n 30 31 C dX0_stepsOf_30 rfl 1 rfl ?_
        refine k_iret 31 C dX0_stepsOf_31 rfl ?_
        first | exact ⟨rfl, (stpF_out zc).symm.trans hg⟩ | exact ⟨rfl, (stpF_org (Classical.not_not.mp h27) (by have := hk.le; omega)).symm.trans hg⟩
      · refine k_rwQ zr ?_
        have zq := hD.d (π zj) (hk.p zj (by have := hk.le; omega))
        have zv := hk.d zj zl
        refine k_astore 15 17 C [(4, _), (3, _), (2, _), (0, _), (1, _)] dX0_stepsOf_15 rfl (by decide) rfl ?_
        refine k_aload 17 19 C dX0_stepsOf_17 rfl 0 rfl ?_
        refine k_ifnullO 19 22 C dX0_stepsOf_19 rfl ?_
        refine k_aload 22 24 C dX0_stepsOf_22 rfl 0 rfl ?_
        refine k_callVI 24 27 C [] [] dX0_stepsOf_24 rfl (ct_X1_isCopy zq zv) mi_X1_isCopy ml_X0_79 im_X1_isCopy se_X1_isCopy ci_X1 (IsDrw.o zq) rfl rfl ⟨Nat.le_of_ble_eq_true rfl, Nat.le_of_ble_eq_true rfl⟩ (Nat.le_of_ble_eq_true rfl) (Nat.zero_le _) (Nat.zero_le _) (fun r24 V24 p24 => ?_)
        obtain ⟨rfl, rfl⟩ := And.intro p24.1.symm p24.2
        refine k_ifb_ne 27 32 30 C dX0_stepsOf_27 (by decide) rfl (fun h27 => ?_) (fun h27 => ?_)
        · refine k_aload 32 34 C dX0_stepsOf_32 rfl 0 rfl ?_
          refine k_getN 34 37 C dX0_stepsOf_34 rfl ci_X1 0 fn_X0_76 (IsDrw.o zq) (by decide) rfl ?_
          refine k_rwI (zv.f0) ?_
          refine k_istore_n 37 38 C [(2, _), (4, _), (3, _), (0, _), (1, _)] dX0_stepsOf_37 rfl (by decide) rfl ?_
          refine k_iinc 38 41 C [(3, _), (2, _), (4, _), (0, _), (1, _)] (nI (i + 1)) dX0_stepsOf_38 rfl 2 rfl (nI_1 i) (by decide) rfl ?_
          refine k_goto 41 4 C dX0_stepsOf_41 (by decide) ?_
          refine k_perm [0, 1, 3, 4] (L' := [(3, _), (2, _), (0, _), (1, _)]) rfl ?_
          exact ih (6 - (i + 1)) (by omega) (i + 1) (rpa (kdr S zj)) rfl (by omega) ((stpF_cp hk.le zl h27).symm.trans hg)
        · refine k_iload_n 30 31 C dX0_stepsOf_30 rfl 1 rfl ?_
          refine k_iret 31 C dX0_stepsOf_31 rfl ?_
          first | exact ⟨rfl, (stpF_out zc).symm.trans hg⟩ | exact ⟨rfl, (stpF_org (Classical.not_not.mp h27) (by have := hk.le; omega)).symm.trans hg⟩
  refine k_iload_n 0 1 C dX0_stepsOf_0 rfl 1 rfl ?_
  refine k_istore_n 1 2 C [(2, _), (0, _), (1, _)] dX0_stepsOf_1 rfl (by decide) rfl ?_
  refine k_iconst 2 3 C dX0_stepsOf_2 rfl (v := 0) rfl ?_
  refine k_istore_n 3 4 C [(3, _), (2, _), (0, _), (1, _)] dX0_stepsOf_3 rfl (by decide) rfl ?_
  exact loop4 _ 0 num rfl (Nat.zero_le _) rfl
set_option maxHeartbeats 4000000 in
set_option maxRecDepth 100000 in
theorem ct_X0_isOnBoard {E : gE} {T : gT} {l : Launch} {V : gV} {i : Int32} {D a : Nat} {S : Dk} {π : Nat → Nat} {d : Dr} (hD : IsDsk T D) (hk : DK V D S π) (ha : IsDrw T a) (hd : DV V a d) : CtI E T l yX0_isOnBoard (gw yX0_isOnBoard cX0_isOnBoard 7 (some .boolean)) { frames := 2, cells := 0, slots := 0, locals := 42 } [.ref D, .ref a, .int i] V (fun (r : Int32) (V' : gV) => V' = V ∧ r = bi (onB S d i = true)) := by
  refine ctI_of (L := [(0, .ref D), (1, .ref a), (2, .int i)]) (by decide) rfl (Nat.le_of_ble_eq_true rfl) rfl (fun p e s m args below meth c C => ?_)
  refine k_aload_n 0 1 C dX0_isOnBoard_0 rfl 1 rfl ?_
  refine k_iload_n 1 2 C dX0_isOnBoard_1 rfl 2 rfl ?_
  refine k_callVL 2 5 C [_] [] dX0_isOnBoard_2 rfl (ct_X1_x ha hd) mi_X1_x ml_X0_83 im_X1_x se_X1_x ci_X1 (IsDrw.o ha) rfl rfl ⟨Nat.le_of_ble_eq_true rfl, Nat.le_of_ble_eq_true rfl⟩ (Nat.le_of_ble_eq_true rfl) (Nat.zero_le _) (Nat.zero_le _) (fun r2 V2 p2 => ?_)
  obtain ⟨rfl, rfl⟩ := And.intro p2.1.symm p2.2
  refine k_lstore_n 5 6 C [(3, _), (0, _), (1, _), (2, _)] dX0_isOnBoard_5 rfl (by decide) rfl ?_
  refine k_aload_n 6 7 C dX0_isOnBoard_6 rfl 2 rfl ?_
  refine k_iload_n 7 8 C dX0_isOnBoard_7 rfl 3 rfl ?_
  refine k_callVL 8 11 C [_] [] dX0_isOnBoard_8 rfl (ct_X1_y ha hd) mi_X1_y ml_X0_87 im_X1_y se_X1_y ci_X1 (IsDrw.o ha) rfl rfl ⟨Nat.le_of_ble_eq_true rfl, Nat.le_of_ble_eq_true rfl⟩ (Nat.le_of_ble_eq_true rfl) (Nat.zero_le _) (Nat.zero_le _) (fun r8 V8 p8 => ?_)
  obtain ⟨rfl, rfl⟩ := And.intro p8.1.symm p8.2
  refine k_lstore 11 13 C [(5, _), (3, _), (0, _), (1, _), (2, _)] dX0_isOnBoard_11 rfl (by decide) rfl ?_
  refine k_lload_n 13 14 C dX0_isOnBoard_13 rfl 1 rfl ?_
  refine k_lconst 14 15 C dX0_isOnBoard_14 rfl (v := 0) rfl ?_
  refine k_lcmp_lt 15 16 63 19 C dX0_isOnBoard_15 rfl dX0_isOnBoard_16 (by decide) rfl (fun h16 => ?_) (fun h16 => ?_)
  · refine k_iconst 63 64 C dX0_isOnBoard_63 rfl (v := 0) rfl ?_
    refine k_zret 64 C dX0_isOnBoard_64 rfl (by first | exact Or.inl rfl | exact Or.inr rfl | exact bi_01) ?_
    first | exact ⟨rfl, (bi_t (by simp [onB, h16])).symm⟩ | exact ⟨rfl, (bi_f (by simp [onB, h16])).symm⟩
  · refine k_lload_n 19 20 C dX0_isOnBoard_19 rfl 1 rfl ?_
    refine k_aload_n 20 21 C dX0_isOnBoard_20 rfl 2 rfl ?_
    refine k_iconst 21 22 C dX0_isOnBoard_21 rfl (v := 2) rfl ?_
    refine k_callVI 22 25 C [_] [_] dX0_isOnBoard_22 rfl (ct_X0_setting hD hk) mi_X0_setting ml_X0_56 im_X0_setting se_X0_setting ci_X0 (IsDsk.o ‹_›) rfl rfl ⟨Nat.le_of_ble_eq_true rfl, Nat.le_of_ble_eq_true rfl⟩ (Nat.le_of_ble_eq_true rfl) (Nat.zero_le _) (Nat.zero_le _) (fun r22 V22 p22 => ?_)
    obtain ⟨rfl, rfl⟩ := And.intro p22.1.symm p22.2
    refine k_rwI (show sSet S 2 = ks S 2 from rfl) ?_
    refine k_i2l 25 26 C dX0_isOnBoard_25 rfl  ?_
    refine k_aload_n 26 27 C dX0_isOnBoard_26 rfl 3 rfl ?_
    refine k_getN 27 30 C dX0_isOnBoard_27 rfl ci_X1 2 fn_X0_90 (IsDrw.o ha) (by decide) rfl ?_
    refine k_rwL (hd.f2) ?_
    refine k_lmul 30 31 C dX0_isOnBoard_30 rfl  ?_
    refine k_lcmp_gt 31 32 63 35 C dX0_isOnBoard_31 rfl dX0_isOnBoard_32 (by decide) rfl (fun h32 => ?_) (fun h32 => ?_)
    · refine k_iconst 63 64 C dX0_isOnBoard_63 rfl (v := 0) rfl ?_
      refine k_zret 64 C dX0_isOnBoard_64 rfl (by first | exact Or.inl rfl | exact Or.inr rfl | exact bi_01) ?_
      first | exact ⟨rfl, (bi_t (by simp [onB, h16, h32])).symm⟩ | exact ⟨rfl, (bi_f (by simp [onB, h16, h32])).symm⟩
    · refine k_lload 35 37 C dX0_isOnBoard_35 rfl 0 rfl ?_
      refine k_lconst 37 38 C dX0_isOnBoard_37 rfl (v := 0) rfl ?_
      refine k_lcmp_lt 38 39 63 42 C dX0_isOnBoard_38 rfl dX0_isOnBoard_39 (by decide) rfl (fun h39 => ?_) (fun h39 => ?_)
      · refine k_iconst 63 64 C dX0_isOnBoard_63 rfl (v := 0) rfl ?_
        refine k_zret 64 C dX0_isOnBoard_64 rfl (by first | exact Or.inl rfl | exact Or.inr rfl | exact bi_01) ?_
        first | exact ⟨rfl, (bi_t (by simp [onB, h16, h32, h39])).symm⟩ | exact ⟨rfl, (bi_f (by simp [onB, h16, h32, h39])).symm⟩
      · refine k_lload 42 44 C dX0_isOnBoard_42 rfl 0 rfl ?_
        refine k_aload_n 44 45 C dX0_isOnBoard_44 rfl 2 rfl ?_
        refine k_iconst 45 46 C dX0_isOnBoard_45 rfl (v := 3) rfl ?_
        refine k_callVI 46 49 C [_] [_] dX0_isOnBoard_46 rfl (ct_X0_setting hD hk) mi_X0_setting ml_X0_56 im_X0_setting se_X0_setting ci_X0 (IsDsk.o ‹_›) rfl rfl ⟨Nat.le_of_ble_eq_true rfl, Nat.le_of_ble_eq_true rfl⟩ (Nat.le_of_ble_eq_true rfl) (Nat.zero_le _) (Nat.zero_le _) (fun r46 V46 p46 => ?_)
        obtain ⟨rfl, rfl⟩ := And.intro p46.1.symm p46.2
        refine k_rwI (show sSet S 3 = ks S 3 from rfl) ?_
        refine k_i2l 49 50 C dX0_isOnBoard_49 rfl  ?_
        refine k_aload_n 50 51 C dX0_isOnBoard_50 rfl 3 rfl ?_
        refine k_getN 51 54 C dX0_isOnBoard_51 rfl ci_X1 2 fn_X0_90 (IsDrw.o ha) (by decide) rfl ?_
        refine k_rwL (hd.f2) ?_
        refine k_lmul 54 55 C dX0_isOnBoard_54 rfl  ?_
        refine k_lcmp_gt 55 56 63 59 C dX0_isOnBoard_55 rfl dX0_isOnBoard_56 (by decide) rfl (fun h56 => ?_) (fun h56 => ?_)
        · refine k_iconst 63 64 C dX0_isOnBoard_63 rfl (v := 0) rfl ?_
          refine k_zret 64 C dX0_isOnBoard_64 rfl (by first | exact Or.inl rfl | exact Or.inr rfl | exact bi_01) ?_
          first | exact ⟨rfl, (bi_t (by simp [onB, h16, h32, h39, h56])).symm⟩ | exact ⟨rfl, (bi_f (by simp [onB, h16, h32, h39, h56])).symm⟩
        · refine k_iconst 59 60 C dX0_isOnBoard_59 rfl (v := 1) rfl ?_
          refine k_goto 60 64 C dX0_isOnBoard_60 (by decide) ?_
          refine k_zret 64 C dX0_isOnBoard_64 rfl (by first | exact Or.inl rfl | exact Or.inr rfl | exact bi_01) ?_
          first | exact ⟨rfl, (bi_t (by simp [onB, h16, h32, h39, h56])).symm⟩ | exact ⟨rfl, (bi_f (by simp [onB, h16, h32, h39, h56])).symm⟩
set_option maxHeartbeats 4000000 in
set_option maxRecDepth 100000 in
theorem ct_X0_pointsOffBoard {E : gE} {T : gT} {l : Launch} {V : gV} {D a : Nat} {S : Dk} {π : Nat → Nat} {d : Dr} (hD : IsDsk T D) (hk : DK V D S π) (ha : IsDrw T a) (hd : DV V a d) : CtI E T l yX0_pointsOffBoard (gw yX0_pointsOffBoard cX0_pointsOffBoard 4 (some .int)) { frames := 3, cells := 0, slots := 0, locals := 68 } [.ref D, .ref a] V (fun (r : Int32) (V' : gV) => V' = V ∧ r = nI (offB S d (rn d))) := by
  refine ctI_of (L := [(0, .ref D), (1, .ref a)]) (by decide) rfl (Nat.le_of_ble_eq_true rfl) rfl (fun p e s m args below meth c C => ?_)
  have loop4 : ∀ (f : Nat) (j : Nat), rn d - j = f → (j ≤ rn d) → KW E T V p l e { frames := 3, cells := 0, slots := 0, locals := 68 } s m args below meth c 4 0 0 (MQ below (va_Qi (fun (r : Int32) (V' : gV) => V' = V ∧ r = nI (offB S d (rn d))) (RepS E T) (gA E)) args s 0 0 (gA E)) 4 [(3, .int (nI j)), (2, .int (nI (offB S d j))), (0, .ref D), (1, .ref a)] [] := by
    intro f
    induction f using Nat.strongRecOn with
    | _ f ih =>
    intro j hf hj
    refine k_iload_n 4 5 C dX0_pointsOffBoard_4 rfl 0 rfl ?_
    refine k_aload_n 5 6 C dX0_pointsOffBoard_5 rfl 3 rfl ?_
    refine k_getN 6 9 C dX0_pointsOffBoard_6 rfl ci_X1 7 fn_X0_94 (IsDrw.o ha) (by decide) rfl ?_
    refine k_rwI (hd.f7) ?_
    refine k_icmp_ge 9 30 12 C dX0_pointsOffBoard_9 (by decide) rfl (fun h9 => ?_) (fun h9 => ?_)
    · rw [n20 hd.le (Nat.le_trans hj hd.le)] at h9
      obtain rfl : j = rn d := by omega
      refine k_iload_n 30 31 C dX0_pointsOffBoard_30 rfl 1 rfl ?_
      refine k_iret 31 C dX0_pointsOffBoard_31 rfl ?_
      exact ⟨rfl, rfl⟩
    · rw [n20 hd.le (Nat.le_trans hj hd.le)] at h9
      refine k_aload_n 12 13 C dX0_pointsOffBoard_12 rfl 2 rfl ?_
      refine k_aload_n 13 14 C dX0_pointsOffBoard_13 rfl 3 rfl ?_
      refine k_iload_n 14 15 C dX0_pointsOffBoard_14 rfl 0 rfl ?_
      refine k_callVI 15 18 C [_, _] [] dX0_pointsOffBoard_15 rfl (ct_X0_isOnBoard hD hk ha hd) mi_X0_isOnBoard ml_X0_95 im_X0_isOnBoard se_X0_isOnBoard ci_X0 (IsDsk.o ‹_›) rfl rfl ⟨Nat.le_of_ble_eq_true rfl, Nat.le_of_ble_eq_true rfl⟩ (Nat.le_of_ble_eq_true rfl) (Nat.zero_le _) (Nat.zero_le _) (fun r15 V15 p15 => ?_)
      obtain ⟨rfl, rfl⟩ := And.intro p15.1.symm p15.2
      refine k_ifb_ne 18 24 21 C dX0_pointsOffBoard_18 (by decide) rfl (fun h18 => ?_) (fun h18 => ?_)
      · refine k_iinc 24 27 C [(3, _), (2, _), (0, _), (1, _)] (nI (j + 1)) dX0_pointsOffBoard_24 rfl 0 rfl (nI_1 j) (by decide) rfl ?_
        refine k_goto 27 4 C dX0_pointsOffBoard_27 (by decide) ?_
        have zh := ih (rn d - (j + 1)) (by omega) (j + 1) rfl (by omega)
        first | (rw [show offB S d (j + 1) = offB S d j from by simp [offB, h18]] at zh; exact zh) | (rw [show offB S d (j + 1) = offB S d j + 1 from by simp [offB, h18]] at zh; exact zh)
      · refine k_iinc 21 24 C [(2, _), (3, _), (0, _), (1, _)] (nI (offB S d j + 1)) dX0_pointsOffBoard_21 rfl 1 rfl (nI_1 _) (by decide) rfl ?_
        refine k_iinc 24 27 C [(3, _), (2, _), (0, _), (1, _)] (nI (j + 1)) dX0_pointsOffBoard_24 rfl 1 rfl (nI_1 j) (by decide) rfl ?_
        refine k_goto 27 4 C dX0_pointsOffBoard_27 (by decide) ?_
        have zh := ih (rn d - (j + 1)) (by omega) (j + 1) rfl (by omega)
        first | (rw [show offB S d (j + 1) = offB S d j from by simp [offB, h18]] at zh; exact zh) | (rw [show offB S d (j + 1) = offB S d j + 1 from by simp [offB, h18]] at zh; exact zh)
  refine k_iconst 0 1 C dX0_pointsOffBoard_0 rfl (v := 0) rfl ?_
  refine k_istore_n 1 2 C [(2, _), (0, _), (1, _)] dX0_pointsOffBoard_1 rfl (by decide) rfl ?_
  refine k_iconst 2 3 C dX0_pointsOffBoard_2 rfl (v := 0) rfl ?_
  refine k_istore_n 3 4 C [(3, _), (2, _), (0, _), (1, _)] dX0_pointsOffBoard_3 rfl (by decide) rfl ?_
  exact loop4 _ 0 rfl (Nat.zero_le _)
set_option maxHeartbeats 4000000 in
set_option maxRecDepth 100000 in
theorem ct_X0_beginOriginal {E : gE} {T : gT} {l : Launch} {V : gV} {D : Nat} {S : Dk} {π : Nat → Nat} (hD : IsDsk T D) (hk : DK V D S π) (hn : kn S < 6) : CtI E T l yX0_beginOriginal (gw yX0_beginOriginal cX0_beginOriginal 2 (some .int)) { frames := 1, cells := 0, slots := 0, locals := 25 } [.ref D] V (fun (r : Int32) (V' : gV) => r = nI (kn S) ∧ DK V' D (kf S, ks S, kn S + 1, va_up (kdr S) (kn S) (dBegin (-1) 1 1)) π ∧ Off V V' D (D + 27)) := by
  refine ctI_of (L := [(0, .ref D)]) (by decide) rfl (Nat.le_of_ble_eq_true rfl) rfl (fun p e s m args below meth c C => ?_)
  refine k_aload_n 0 1 C dX0_beginOriginal_0 rfl 0 rfl ?_
  refine k_callVQ 1 4 C [] [] dX0_beginOriginal_1 rfl (ct_X0_spare hD hk) mi_X0_spare ml_X0_68 im_X0_spare se_X0_spare ci_X0 (IsDsk.o ‹_›) rfl rfl ⟨Nat.le_of_ble_eq_true rfl, Nat.le_of_ble_eq_true rfl⟩ (Nat.le_of_ble_eq_true rfl) (Nat.zero_le _) (Nat.zero_le _) (fun r1 V1 p1 => ?_)
  obtain ⟨rfl, rfl⟩ := And.intro p1.1.symm p1.2
  refine k_rwQ (if_pos hn) ?_
  have zp := hk.p _ hn
  have zq := hD.d _ zp
  refine k_astore_n 4 5 C [(1, _), (0, _)] dX0_beginOriginal_4 rfl (by decide) rfl ?_
  refine k_aload_n 5 6 C dX0_beginOriginal_5 rfl 0 rfl ?_
  refine k_ifnonnullO 6 11 C dX0_beginOriginal_6 (by decide) ?_
  refine k_aload_n 11 12 C dX0_beginOriginal_11 rfl 0 rfl ?_
  refine k_iconst 12 13 C dX0_beginOriginal_12 rfl (v := (-1)) rfl ?_
  refine k_lconst 13 14 C dX0_beginOriginal_13 rfl (v := 1) rfl ?_
  refine k_lconst 14 15 C dX0_beginOriginal_14 rfl (v := 1) rfl ?_
  refine k_callVV 15 18 C [_, _, _] [] dX0_beginOriginal_15 rfl (ct_X1_begin zq) mi_X1_begin ml_X0_72 im_X1_begin se_X1_begin ci_X1 (IsDrw.o zq) rfl rfl ⟨Nat.le_of_ble_eq_true rfl, Nat.le_of_ble_eq_true rfl⟩ (Nat.le_of_ble_eq_true rfl) (Nat.zero_le _) (Nat.zero_le _) (fun V15 p15 => ?_)
  obtain ⟨z1, z2⟩ := p15
  have zk := hk.spare hn (Nat.le_refl _) z2
  refine k_aload_n 18 19 C dX0_beginOriginal_18 rfl 1 rfl ?_
  refine k_dup 19 20 C dX0_beginOriginal_19 rfl rfl ?_
  refine k_get 20 23 C dX0_beginOriginal_20 rfl ci_X0 11 fl_X0_52 (IsDsk.o ‹_›) (by decide) rfl ?_
  refine k_rwI (zk.n) ?_
  refine k_iconst 23 24 C dX0_beginOriginal_23 rfl (v := 1) rfl ?_
  refine k_iadd 24 25 C dX0_beginOriginal_24 rfl  ?_
  refine k_rwI (nI_1 _) ?_
  refine k_put 25 28 C dX0_beginOriginal_25 rfl ci_X0 11 fl_X0_52 (IsDsk.o ‹_›) (by decide) rfl rfl rfl wI_off (ps_0_11 _ _ _ _) ?_
  have zg := zk.grow hn z1 (fun zz => absurd zz (Nat.not_lt_zero _))
  have zo := (z2.wide (lo' := D) (hi' := D + 27) (by omega) (by omega)).wI (a := D) (k := 11) (x := nI (kn S + 1)) (Nat.le_refl D) (by omega)
  refine k_aload_n 28 29 C dX0_beginOriginal_28 rfl 1 rfl ?_
  refine k_get 29 32 C dX0_beginOriginal_29 rfl ci_X0 11 fl_X0_52 (IsDsk.o ‹_›) (by decide) rfl ?_
  refine k_rwI (zg.n) ?_
  refine k_iconst 32 33 C dX0_beginOriginal_32 rfl (v := 1) rfl ?_
  refine k_isub 33 34 C dX0_beginOriginal_33 rfl  ?_
  refine k_rwI (y := nI (kn S)) (by show nI (kn S + 1) - nI 1 = _; rw [pk_sub (by omega)]; rfl) ?_
  refine k_iret 34 C dX0_beginOriginal_34 rfl ?_
  exact ⟨rfl, zg, zo⟩
end
section
theorem vL_at {d : Dr} {i : Nat} (hn : rn d ≤ 20) (hi : i < rn d) : vL d (nI i) = rl d i := by
  unfold vL; rw [if_pos ⟨nI_pos (by omega), by rw [n20 hn (by omega)]; omega⟩, nI_clamp (by omega)]
theorem vX_at {d : Dr} {i : Nat} (hn : rn d ≤ 20) (hi : i < rn d) : vX d (nI i) = rX d i := by
  unfold vX; rw [if_pos ⟨nI_pos (by omega), by rw [n20 hn (by omega)]; omega⟩, nI_clamp (by omega)]
theorem vY_at {d : Dr} {i : Nat} (hn : rn d ≤ 20) (hi : i < rn d) : vY d (nI i) = rY d i := by
  unfold vY; rw [if_pos ⟨nI_pos (by omega), by rw [n20 hn (by omega)]; omega⟩, nI_clamp (by omega)]
theorem dW_join {d : Dr} {i : Nat} (hn : rn d ≤ 20) (hi : i < rn d) (hw : dW d) (h : ¬ vL d (nI i) = -1) : 0 < i := by
  rcases Nat.eq_zero_or_pos i with z | z
  · subst z; rw [vL_at hn hi] at h; exact absurd (hw hi) h
  · exact z
theorem dW_line {d : Dr} {i : Nat} {v : Int32} (hw : dW d) (hi : 0 < i) : dW (dLine d i v) := by
  intro h
  show va_up (rl d) i v 0 = -1
  rw [va_up_ne _ _ (by omega)]
  exact hw h
theorem lnS_n (S : Dk) (d : Dr) (i : Nat) : kn (lnS S d i) = kn S ∧ ks (lnS S d i) = ks S ∧ kdr (lnS S d i) = kdr S := by
  unfold lnS; split
  · exact ⟨rfl, rfl, rfl⟩
  · split <;> exact ⟨rfl, rfl, rfl⟩
theorem lnD_n (S : Dk) (d : Dr) (i : Nat) : rn (lnD S d i) = rn d := by
  unfold lnD; split
  · rfl
  · split <;> rfl
theorem lnD_w {S : Dk} {d : Dr} {i : Nat} (hn : rn d ≤ 20) (hi : i < rn d) (hw : dW d) : dW (lnD S d i) := by
  unfold lnD; split
  · exact hw
  · next h => split
              · exact hw
              · exact dW_line hw (dW_join hn hi hw h)
theorem lnAll_n (S : Dk) (d : Dr) : ∀ i, kn (lnAll S d i).1 = kn S ∧ rn (lnAll S d i).2 = rn d
  | 0 => ⟨rfl, rfl⟩
  | i + 1 => ⟨(lnS_n _ _ i).1.trans (lnAll_n S d i).1, (lnD_n _ _ i).trans (lnAll_n S d i).2⟩
def trP (S : Dk) (d : Dr) : Int64 := (ks S 1).toInt64 * (rpt d * (kf S 1).toInt64)
def trX (S : Dk) (d : Dr) : Nat → Int64
  | 0 => sAim S (vX d (nI 0)) (rpt d) (kf S 2) (sgX S)
  | i + 1 => if vL d (nI (i + 1)) = -1 then sAim S (vX d (nI (i + 1))) (rpt d) (kf S 2) (sgX S) else sFol (trX S d i) (sAim S (vX d (nI (i + 1))) (rpt d) (kf S 2) (sgX S)) (trP S d)
def trY (S : Dk) (d : Dr) : Nat → Int64
  | 0 => sAim S (vY d (nI 0)) (rpt d) (kf S 3) (sgY S)
  | i + 1 => if vL d (nI (i + 1)) = -1 then sAim S (vY d (nI (i + 1))) (rpt d) (kf S 3) (sgY S) else sFol (trY S d i) (sAim S (vY d (nI (i + 1))) (rpt d) (kf S 3) (sgY S)) (trP S d)
def trL (d : Dr) (i : Nat) : Int32 := if i = 0 then -1 else if vL d (nI i) = -1 then -1 else 0
/-- the copy that is traced -/
def trD (S : Dk) (num : Int32) (d : Dr) : Dr := (num, rsc d * (kf S 0).toInt64, rpt d * (kf S 1).toInt64, rsx d * sgX S, rsy d * sgY S, sAim S (rhx d) (rpt d) (kf S 2) (sgX S), sAim S (rhy d) (rpt d) (kf S 3) (sgY S), rn d, trX S d, trY S d, trL d)
theorem trX_u {S : Dk} {d : Dr} {i : Nat} (h : vL d (nI i) = -1) : trX S d i = sAim S (vX d (nI i)) (rpt d) (kf S 2) (sgX S) := by
  cases i with
  | zero => rfl
  | succ k => simp only [trX]; rw [if_pos h]
theorem trY_u {S : Dk} {d : Dr} {i : Nat} (h : vL d (nI i) = -1) : trY S d i = sAim S (vY d (nI i)) (rpt d) (kf S 3) (sgY S) := by
  cases i with
  | zero => rfl
  | succ k => simp only [trY]; rw [if_pos h]
theorem trX_j {S : Dk} {d : Dr} {i : Nat} (h : ¬ vL d (nI i) = -1) (hi : 0 < i) : trX S d i = sFol (trX S d (i - 1)) (sAim S (vX d (nI i)) (rpt d) (kf S 2) (sgX S)) (trP S d) := by
  cases i with
  | zero => omega
  | succ k => simp only [trX]; rw [if_neg h]; rfl
theorem trY_j {S : Dk} {d : Dr} {i : Nat} (h : ¬ vL d (nI i) = -1) (hi : 0 < i) : trY S d i = sFol (trY S d (i - 1)) (sAim S (vY d (nI i)) (rpt d) (kf S 3) (sgY S)) (trP S d) := by
  cases i with
  | zero => omega
  | succ k => simp only [trY]; rw [if_neg h]; rfl
theorem pred_at {t : Dr} {i : Nat} (hi : 0 < i) (h20 : i ≤ 20) : vX (dTake t i) (nI i - 1) = rX t (i - 1) ∧ vY (dTake t i) (nI i - 1) = rY t (i - 1) := by
  have e : nI i - 1 = nI (i - 1) := by
    have := pk_sub (a := i) (b := 1) (by omega)
    exact this
  rw [e]
  exact ⟨vX_at (d := dTake t i) (by show i ≤ 20; omega) (by show i - 1 < i; omega), vY_at (d := dTake t i) (by show i ≤ 20; omega) (by show i - 1 < i; omega)⟩
theorem take_step {V1 : gV} {a : Nat} {t : Dr} {i : Nat} {x y : Int64} {l : Int32} (hx : x = rX t i) (hy : y = rY t i) (hl : (if i = 0 then -1 else l) = rl t i) (h : DV V1 a (dAdd (dTake t i) x y l)) : DV V1 a (dTake t (i + 1)) := by
  subst hx; subst hy
  refine h.to rfl rfl rfl rfl rfl rfl rfl rfl (fun k hk => ?_)
  have hk' : k < i + 1 := hk
  by_cases e : k = i
  · subst e
    refine ⟨?_, ?_, ?_⟩
    · show va_up _ k _ k = _; rw [va_up_self]; rfl
    · show va_up _ k _ k = _; rw [va_up_self]; rfl
    · show va_up _ k (if k = 0 then -1 else l) k = _; rw [va_up_self]; exact hl
  · refine ⟨?_, ?_, ?_⟩
    · show va_up _ i _ k = _; rw [va_up_ne _ _ e]; rfl
    · show va_up _ i _ k = _; rw [va_up_ne _ _ e]; rfl
    · show va_up _ i _ k = _; rw [va_up_ne _ _ e]; rfl
def rsn (S : Dk) (num : Int32) (d : Dr) : Int32 := if rn d < 1 then 1 else if ¬ sWorn S ≤ 9 then 2 else if ¬ kn S < 6 then 3 else if tooF (trD S num d) = true then 4 else 0
set_option maxHeartbeats 4000000 in
set_option maxRecDepth 100000 in
theorem ct_X0_drawLine {E : gE} {T : gT} {l : Launch} {V : gV} {i : Nat} {D a : Nat} {S : Dk} {π : Nat → Nat} {d : Dr} (hD : IsDsk T D) (hk : DK V D S π) (hn : kn S < 6) (hae : a = D + 3 + 4 * π (kn S)) (hd : DV V a d) (hi : i < rn d) : CtV E T l yX0_drawLine (gw yX0_drawLine cX0_drawLine 4 none) { frames := 3, cells := 0, slots := 0, locals := 68 } [.ref D, .ref a, .int (nI i)] V (fun (V' : gV) => DK V' D (lnS S d i) π ∧ DV V' a (lnD S d i) ∧ Off V V' D (D + 27)) := by
  refine ctV_of (L := [(0, .ref D), (1, .ref a), (2, .int (nI i))]) (by decide) rfl (Nat.le_of_ble_eq_true rfl) rfl (fun p e s m args below meth c C => ?_)
  have hp6 := hk.p _ hn
  have ha : IsDrw T a := by rw [hae]; exact hD.d _ hp6
  refine k_aload_n 0 1 C dX0_drawLine_0 rfl 1 rfl ?_
  refine k_iload_n 1 2 C dX0_drawLine_1 rfl 2 rfl ?_
  refine k_callVI 2 5 C [_] [] dX0_drawLine_2 rfl (ct_X1_isJoined ha hd) mi_X1_isJoined ml_X0_107 im_X1_isJoined se_X1_isJoined ci_X1 (IsDrw.o ha) rfl rfl ⟨Nat.le_of_ble_eq_true rfl, Nat.le_of_ble_eq_true rfl⟩ (Nat.le_of_ble_eq_true rfl) (Nat.zero_le _) (Nat.zero_le _) (fun r2 V2 p2 => ?_)
  obtain ⟨rfl, rfl⟩ := And.intro p2.1.symm p2.2
  refine k_ifb_ne 5 9 8 C dX0_drawLine_5 (by decide) rfl (fun h5 => ?_) (fun h5 => ?_)
  · refine k_aload_n 9 10 C dX0_drawLine_9 rfl 0 rfl ?_
    refine k_aload_n 10 11 C dX0_drawLine_10 rfl 1 rfl ?_
    refine k_iload_n 11 12 C dX0_drawLine_11 rfl 2 rfl ?_
    refine k_iconst 12 13 C dX0_drawLine_12 rfl (v := 1) rfl ?_
    refine k_isub 13 14 C dX0_drawLine_13 rfl  ?_
    refine k_callVI 14 17 C [_, _] [] dX0_drawLine_14 rfl (ct_X0_isOnBoard hD hk ha hd) mi_X0_isOnBoard ml_X0_95 im_X0_isOnBoard se_X0_isOnBoard ci_X0 (IsDsk.o ‹_›) rfl rfl ⟨Nat.le_of_ble_eq_true rfl, Nat.le_of_ble_eq_true rfl⟩ (Nat.le_of_ble_eq_true rfl) (Nat.zero_le _) (Nat.zero_le _) (fun r14 V14 p14 => ?_)
    obtain ⟨rfl, rfl⟩ := And.intro p14.1.symm p14.2
    refine k_ifb_eq 17 29 20 C dX0_drawLine_17 (by decide) rfl (fun h17 => ?_) (fun h17 => ?_)
    · refine k_aload_n 29 30 C dX0_drawLine_29 rfl 0 rfl ?_
      refine k_dup 30 31 C dX0_drawLine_30 rfl rfl ?_
      refine k_get 31 34 C dX0_drawLine_31 rfl ci_X0 9 fl_X0_43 (IsDsk.o ‹_›) (by decide) rfl ?_
      refine k_rwI (hk.f 9 (by decide) (by decide)) ?_
      refine k_iconst 34 35 C dX0_drawLine_34 rfl (v := 1) rfl ?_
      refine k_iadd 35 36 C dX0_drawLine_35 rfl  ?_
      refine k_put 36 39 C dX0_drawLine_36 rfl ci_X0 9 fl_X0_43 (IsDsk.o ‹_›) (by decide) rfl rfl rfl wI_off (ps_0_9 _ _ _ _) ?_
      have zo : Off V (wI V D 9 (kf S 9 + 1)) D (D + 1) := Off.rf.wI (Nat.le_refl D) (by omega)
      refine k_vret 39 C dX0_drawLine_39 rfl ?_
      have zb : ¬ (onB S d (nI i - 1) = true ∧ onB S d (nI i) = true) := by first | exact fun z => h17 z.1 | exact fun z => h26 z.2
      exact ⟨by simp only [lnS]; rw [if_neg h5, if_pos zb]; exact hk.fld (by decide), by simp only [lnD]; rw [if_neg h5, if_pos zb]; exact hd.off zo (by omega), zo.wide (Nat.le_refl D) (by omega)⟩
    · refine k_aload_n 20 21 C dX0_drawLine_20 rfl 0 rfl ?_
      refine k_aload_n 21 22 C dX0_drawLine_21 rfl 1 rfl ?_
      refine k_iload_n 22 23 C dX0_drawLine_22 rfl 2 rfl ?_
      refine k_callVI 23 26 C [_, _] [] dX0_drawLine_23 rfl (ct_X0_isOnBoard hD hk ha hd) mi_X0_isOnBoard ml_X0_95 im_X0_isOnBoard se_X0_isOnBoard ci_X0 (IsDsk.o ‹_›) rfl rfl ⟨Nat.le_of_ble_eq_true rfl, Nat.le_of_ble_eq_true rfl⟩ (Nat.le_of_ble_eq_true rfl) (Nat.zero_le _) (Nat.zero_le _) (fun r23 V23 p23 => ?_)
      obtain ⟨rfl, rfl⟩ := And.intro p23.1.symm p23.2
      refine k_ifb_ne 26 40 29 C dX0_drawLine_26 (by decide) rfl (fun h26 => ?_) (fun h26 => ?_)
      · refine k_aload_n 40 41 C dX0_drawLine_40 rfl 1 rfl ?_
        refine k_iload_n 41 42 C dX0_drawLine_41 rfl 2 rfl ?_
        refine k_callVI 42 45 C [_] [] dX0_drawLine_42 rfl (ct_X1_lineLength ha hd) mi_X1_lineLength ml_X0_111 im_X1_lineLength se_X1_lineLength ci_X1 (IsDrw.o ha) rfl rfl ⟨Nat.le_of_ble_eq_true rfl, Nat.le_of_ble_eq_true rfl⟩ (Nat.le_of_ble_eq_true rfl) (Nat.zero_le _) (Nat.zero_le _) (fun r42 V42 p42 => ?_)
        obtain ⟨rfl, rfl⟩ := And.intro p42.1.symm p42.2
        refine k_istore_n 45 46 C [(3, _), (0, _), (1, _), (2, _)] dX0_drawLine_45 rfl (by decide) rfl ?_
        refine k_aload_n 46 47 C dX0_drawLine_46 rfl 2 rfl ?_
        refine k_iload_n 47 48 C dX0_drawLine_47 rfl 3 rfl ?_
        refine k_aload_n 48 49 C dX0_drawLine_48 rfl 1 rfl ?_
        refine k_callVI 49 52 C [] [_, _] dX0_drawLine_49 rfl (ct_X0_wornWidth hD hk) mi_X0_wornWidth ml_X0_103 im_X0_wornWidth se_X0_wornWidth ci_X0 (IsDsk.o ‹_›) rfl rfl ⟨Nat.le_of_ble_eq_true rfl, Nat.le_of_ble_eq_true rfl⟩ (Nat.le_of_ble_eq_true rfl) (Nat.zero_le _) (Nat.zero_le _) (fun r49 V49 p49 => ?_)
        obtain ⟨rfl, rfl⟩ := And.intro p49.1.symm p49.2
        refine k_bipush 52 54 C dX0_drawLine_52 rfl (v := 9) rfl ?_
        refine k_min 54 57 C dX0_drawLine_54 rfl ml_X0_114 (Nat.le_of_ble_eq_true rfl) (Nat.le_of_ble_eq_true rfl) (Nat.zero_le _) (Nat.zero_le _) ?_
        refine k_callVV 57 60 C [_, _] [] dX0_drawLine_57 rfl (ct_X1_changeLine ha hd hi) mi_X1_changeLine ml_X0_120 im_X1_changeLine se_X1_changeLine ci_X1 (IsDrw.o ha) rfl rfl ⟨Nat.le_of_ble_eq_true rfl, Nat.le_of_ble_eq_true rfl⟩ (Nat.le_of_ble_eq_true rfl) (Nat.zero_le _) (Nat.zero_le _) (fun V57 p57 => ?_)
        obtain ⟨z1, z2⟩ := p57
        have zk := hk.spare hn (Nat.le_refl _) (by rw [← hae]; exact z2)
        refine k_aload_n 60 61 C dX0_drawLine_60 rfl 1 rfl ?_
        refine k_dup 61 62 C dX0_drawLine_61 rfl rfl ?_
        refine k_get 62 65 C dX0_drawLine_62 rfl ci_X0 5 fl_X0_31 (IsDsk.o ‹_›) (by decide) rfl ?_
        refine k_rwI (zk.f 5 (by decide) (by decide)) ?_
        refine k_iload_n 65 66 C dX0_drawLine_65 rfl 0 rfl ?_
        refine k_iadd 66 67 C dX0_drawLine_66 rfl  ?_
        refine k_put 67 70 C dX0_drawLine_67 rfl ci_X0 5 fl_X0_31 (IsDsk.o ‹_›) (by decide) rfl rfl rfl wI_off (ps_0_5 _ _ _ _) ?_
        have zk1 := zk.fld (j := 5) (x := kf S 5 + vLen d (nI i)) (by decide)
        refine k_aload_n 70 71 C dX0_drawLine_70 rfl 1 rfl ?_
        refine k_dup 71 72 C dX0_drawLine_71 rfl rfl ?_
        refine k_get 72 75 C dX0_drawLine_72 rfl ci_X0 7 fl_X0_37 (IsDsk.o ‹_›) (by decide) rfl ?_
        refine k_rwI (y := kf S 7) (zk1.f 7 (by decide) (by decide)) ?_
        refine k_iconst 75 76 C dX0_drawLine_75 rfl (v := 1) rfl ?_
        refine k_iadd 76 77 C dX0_drawLine_76 rfl  ?_
        refine k_put 77 80 C dX0_drawLine_77 rfl ci_X0 7 fl_X0_37 (IsDsk.o ‹_›) (by decide) rfl rfl rfl wI_off (ps_0_7 _ _ _ _) ?_
        have zk2 := zk1.fld (j := 7) (x := kf S 7 + 1) (by decide)
        refine k_aload_n 80 81 C dX0_drawLine_80 rfl 1 rfl ?_
        refine k_dup 81 82 C dX0_drawLine_81 rfl rfl ?_
        refine k_get 82 85 C dX0_drawLine_82 rfl ci_X0 8 fl_X0_40 (IsDsk.o ‹_›) (by decide) rfl ?_
        refine k_rwI (y := kf S 8) (zk2.f 8 (by decide) (by decide)) ?_
        refine k_iload_n 85 86 C dX0_drawLine_85 rfl 0 rfl ?_
        refine k_iadd 86 87 C dX0_drawLine_86 rfl  ?_
        refine k_put 87 90 C dX0_drawLine_87 rfl ci_X0 8 fl_X0_40 (IsDsk.o ‹_›) (by decide) rfl rfl rfl wI_off (ps_0_8 _ _ _ _) ?_
        have zk3 := zk2.fld (j := 8) (x := kf S 8 + vLen d (nI i)) (by decide)
        refine k_vret 90 C dX0_drawLine_90 rfl ?_
        have zb : ¬ ¬ (onB S d (nI i - 1) = true ∧ onB S d (nI i) = true) := fun z => z ⟨h17, h26⟩
        have zo : Off V57 (wI (wI (wI V57 D 5 (kf S 5 + vLen d (nI i))) D 7 (kf S 7 + 1)) D 8 (kf S 8 + vLen d (nI i))) D (D + 1) := ((Off.rf.wI (Nat.le_refl D) (by omega)).wI (Nat.le_refl D) (by omega)).wI (Nat.le_refl D) (by omega)
        exact ⟨by simp only [lnS]; rw [if_neg h5, if_neg zb]; exact zk3, by simp only [lnD]; rw [if_neg h5, if_neg zb]; exact z1.off zo (by omega), (z2.wide (by omega) (by omega)).trans (zo.wide (Nat.le_refl D) (by omega))⟩
      · refine k_aload_n 29 30 C dX0_drawLine_29 rfl 0 rfl ?_
        refine k_dup 30 31 C dX0_drawLine_30 rfl rfl ?_
        refine k_get 31 34 C dX0_drawLine_31 rfl ci_X0 9 fl_X0_43 (IsDsk.o ‹_›) (by decide) rfl ?_
        refine k_rwI (hk.f 9 (by decide) (by decide)) ?_
        refine k_iconst 34 35 C dX0_drawLine_34 rfl (v := 1) rfl ?_
        refine k_iadd 35 36 C dX0_drawLine_35 rfl  ?_
        refine k_put 36 39 C dX0_drawLine_36 rfl ci_X0 9 fl_X0_43 (IsDsk.o ‹_›) (by decide) rfl rfl rfl wI_off (ps_0_9 _ _ _ _) ?_
        have zo : Off V (wI V D 9 (kf S 9 + 1)) D (D + 1) := Off.rf.wI (Nat.le_refl D) (by omega)
        refine k_vret 39 C dX0_drawLine_39 rfl ?_
        have zb : ¬ (onB S d (nI i - 1) = true ∧ onB S d (nI i) = true) := by first | exact fun z => h17 z.1 | exact fun z => h26 z.2
        exact ⟨by simp only [lnS]; rw [if_neg h5, if_pos zb]; exact hk.fld (by decide), by simp only [lnD]; rw [if_neg h5, if_pos zb]; exact hd.off zo (by omega), zo.wide (Nat.le_refl D) (by omega)⟩
  · refine k_vret 8 C dX0_drawLine_8 rfl ?_
    exact ⟨by simp only [lnS]; rw [if_pos (Classical.not_not.mp h5)]; exact hk, by simp only [lnD]; rw [if_pos (Classical.not_not.mp h5)]; exact hd, Off.rf⟩
set_option maxHeartbeats 4000000 in
set_option maxRecDepth 100000 in
theorem ct_X0_keepTraced {E : gE} {T : gT} {l : Launch} {V : gV} {D : Nat} {S : Dk} {π : Nat → Nat} (hD : IsDsk T D) (hk : DK V D S π) {d : Dr} (hn : kn S < 6) (hd : DV V (D + 3 + 4 * π (kn S)) d) (hw : dW d) : CtI E T l yX0_keepTraced (gw yX0_keepTraced cX0_keepTraced 3 (some .int)) { frames := 4, cells := 0, slots := 0, locals := 91 } [.ref D] V (fun (r : Int32) (V' : gV) => r = nI (kn S) ∧ DK V' D (kf (lnAll S d (rn d)).1, ks (lnAll S d (rn d)).1, kn (lnAll S d (rn d)).1 + 1, va_up (kdr (lnAll S d (rn d)).1) (kn (lnAll S d (rn d)).1) (lnAll S d (rn d)).2) π ∧ Off V V' D (D + 27)) := by
  refine ctI_of (L := [(0, .ref D)]) (by decide) rfl (Nat.le_of_ble_eq_true rfl) rfl (fun p e s m args below meth c C => ?_)
  have zp := hk.p _ hn
  have zq := hD.d _ zp
  have zd20 := hd.le
  have loop13 : ∀ (f : Nat) (V1 : gV) (i : Nat), rn d - i = f → (i ≤ rn d) → (DK V1 D (lnAll S d i).1 π) → (DV V1 (D + 3 + 4 * π (kn S)) (lnAll S d i).2) → (dW (lnAll S d i).2) → (Off V V1 D (D + 27)) → KW E T V1 p l e { frames := 4, cells := 0, slots := 0, locals := 91 } s m args below meth c 3 0 0 (MQ below (va_Qi (fun (r : Int32) (V' : gV) => r = nI (kn S) ∧ DK V' D (kf (lnAll S d (rn d)).1, ks (lnAll S d (rn d)).1, kn (lnAll S d (rn d)).1 + 1, va_up (kdr (lnAll S d (rn d)).1) (kn (lnAll S d (rn d)).1) (lnAll S d (rn d)).2) π ∧ Off V V' D (D + 27)) (RepS E T) (gA E)) args s 0 0 (gA E)) 13 [(2, .int (nI i)), (0, .ref D), (1, .ref (D + 3 + 4 * π (kn S)))] [] := by
    intro f
    induction f using Nat.strongRecOn with
    | _ f ih =>
    intro V1 i hf hi g1 g2 g3 g4
    have zn := (lnAll_n S d i).1
    have zm := (lnAll_n S d i).2
    refine k_iload_n 13 14 C dX0_keepTraced_13 rfl 0 rfl ?_
    refine k_aload_n 14 15 C dX0_keepTraced_14 rfl 2 rfl ?_
    refine k_getN 15 18 C dX0_keepTraced_15 rfl ci_X1 7 fn_X0_94 (IsDrw.o zq) (by decide) rfl ?_
    refine k_rwI (y := nI (rn d)) (by rw [g2.f7, zm]) ?_
    refine k_icmp_ge 18 33 21 C dX0_keepTraced_18 (by decide) rfl (fun h18 => ?_) (fun h18 => ?_)
    · rw [n20 zd20 (Nat.le_trans hi zd20)] at h18
      obtain rfl : i = rn d := by omega
      refine k_aload_n 33 34 C dX0_keepTraced_33 rfl 1 rfl ?_
      refine k_dup 34 35 C dX0_keepTraced_34 rfl rfl ?_
      refine k_get 35 38 C dX0_keepTraced_35 rfl ci_X0 11 fl_X0_52 (IsDsk.o ‹_›) (by decide) rfl ?_
      refine k_rwI (y := nI (kn (lnAll S d (rn d)).1)) g1.n ?_
      refine k_iconst 38 39 C dX0_keepTraced_38 rfl (v := 1) rfl ?_
      refine k_iadd 39 40 C dX0_keepTraced_39 rfl  ?_
      refine k_rwI (nI_1 _) ?_
      refine k_put 40 43 C dX0_keepTraced_40 rfl ci_X0 11 fl_X0_52 (IsDsk.o ‹_›) (by decide) rfl rfl rfl wI_off (ps_0_11 _ _ _ _) ?_
      have zg := g1.grow (by rw [zn]; exact hn) (by rw [zn]; exact g2) g3
      have zo := g4.wI (a := D) (k := 11) (x := nI (kn (lnAll S d (rn d)).1 + 1)) (Nat.le_refl D) (by omega)
      refine k_aload_n 43 44 C dX0_keepTraced_43 rfl 1 rfl ?_
      refine k_get 44 47 C dX0_keepTraced_44 rfl ci_X0 11 fl_X0_52 (IsDsk.o ‹_›) (by decide) rfl ?_
      refine k_rwI (y := nI (kn S + 1)) (by rw [zg.n]; show nI (kn (lnAll S d (rn d)).1 + 1) = _; rw [zn]) ?_
      refine k_iconst 47 48 C dX0_keepTraced_47 rfl (v := 1) rfl ?_
      refine k_isub 48 49 C dX0_keepTraced_48 rfl  ?_
      refine k_rwI (y := nI (kn S)) (by show nI (kn S + 1) - nI 1 = _; rw [pk_sub (by omega)]; rfl) ?_
      refine k_iret 49 C dX0_keepTraced_49 rfl ?_
      exact ⟨rfl, zg, zo⟩
    · rw [n20 zd20 (Nat.le_trans hi zd20)] at h18
      refine k_aload_n 21 22 C dX0_keepTraced_21 rfl 1 rfl ?_
      refine k_aload_n 22 23 C dX0_keepTraced_22 rfl 2 rfl ?_
      refine k_iload_n 23 24 C dX0_keepTraced_23 rfl 0 rfl ?_
      refine k_callVV 24 27 C [_, _] [] dX0_keepTraced_24 rfl (ct_X0_drawLine hD g1 (by rw [zn]; exact hn) (by rw [zn]) g2 (by rw [zm]; omega)) mi_X0_drawLine ml_X0_165 im_X0_drawLine se_X0_drawLine ci_X0 (IsDsk.o ‹_›) rfl rfl ⟨Nat.le_of_ble_eq_true rfl, Nat.le_of_ble_eq_true rfl⟩ (Nat.le_of_ble_eq_true rfl) (Nat.zero_le _) (Nat.zero_le _) (fun V24 p24 => ?_)
      refine k_iinc 27 30 C [(2, _), (0, _), (1, _)] (nI (i + 1)) dX0_keepTraced_27 rfl 0 rfl (nI_1 i) (by decide) rfl ?_
      refine k_goto 30 13 C dX0_keepTraced_30 (by decide) ?_
      exact ih (rn d - (i + 1)) (by omega) V24 (i + 1) rfl (by omega) p24.1 p24.2.1 (lnD_w g2.le (by omega) g3) (g4.trans p24.2.2)
  refine k_aload_n 0 1 C dX0_keepTraced_0 rfl 0 rfl ?_
  refine k_callVQ 1 4 C [] [] dX0_keepTraced_1 rfl (ct_X0_spare hD hk) mi_X0_spare ml_X0_68 im_X0_spare se_X0_spare ci_X0 (IsDsk.o ‹_›) rfl rfl ⟨Nat.le_of_ble_eq_true rfl, Nat.le_of_ble_eq_true rfl⟩ (Nat.le_of_ble_eq_true rfl) (Nat.zero_le _) (Nat.zero_le _) (fun r1 V1 p1 => ?_)
  obtain ⟨rfl, rfl⟩ := And.intro p1.1.symm p1.2
  refine k_rwQ (if_pos hn) ?_
  refine k_astore_n 4 5 C [(1, _), (0, _)] dX0_keepTraced_4 rfl (by decide) rfl ?_
  refine k_aload_n 5 6 C dX0_keepTraced_5 rfl 0 rfl ?_
  refine k_ifnonnullO 6 11 C dX0_keepTraced_6 (by decide) ?_
  refine k_iconst 11 12 C dX0_keepTraced_11 rfl (v := 0) rfl ?_
  refine k_istore_n 12 13 C [(2, _), (1, _), (0, _)] dX0_keepTraced_12 rfl (by decide) rfl ?_
  refine k_perm [0, 2, 1] (L' := [(2, _), (0, _), (1, _)]) rfl ?_
  exact loop13 _ V 0 rfl (Nat.zero_le _) hk hd hw Off.rf
set_option maxHeartbeats 4000000 in
set_option maxRecDepth 100000 in
theorem ct_X0_trace {E : gE} {T : gT} {l : Launch} {V : gV} {D a b : Nat} {S : Dk} {π : Nat → Nat} {d : Dr} {num : Int32} (hD : IsDsk T D) (hk : DK V D S π) (hn : kn S < 6) (hae : a = D + 3 + 4 * π (kn S)) (hb : IsDrw T b) (hd : DV V b d) (hw : dW d) (hab : a + 4 ≤ b ∨ b + 4 ≤ a) : CtV E T l yX0_trace (gw yX0_trace cX0_trace 11 none) { frames := 3, cells := 0, slots := 0, locals := 63 } [.ref D, .int num, .ref b, .ref a] V (fun (V' : gV) => DV V' a (trD S num d) ∧ Off V V' a (a + 4)) := by
  refine ctV_of (L := [(0, .ref D), (1, .int num), (2, .ref b), (3, .ref a)]) (by decide) rfl (Nat.le_of_ble_eq_true rfl) rfl (fun p e s m args below meth c C => ?_)
  have hp6 := hk.p _ hn
  have ha : IsDrw T a := by rw [hae]; exact hD.d _ hp6
  have loop115 : ∀ (f : Nat) (V1 : gV) (i : Nat), rn d - i = f → (i ≤ rn d) → (DV V1 a (dTake (trD S num d) i)) → (Off V V1 a (a + 4)) → KW E T V1 p l e { frames := 3, cells := 0, slots := 0, locals := 63 } s m args below meth c 11 0 0 (MQ below (va_Qv (fun (V' : gV) => DV V' a (trD S num d) ∧ Off V V' a (a + 4)) (RepS E T) (gA E)) args s 0 0 (gA E)) 115 [(6, .int (nI i)), (4, .long (trP S d)), (0, .ref D), (1, .int num), (2, .ref b), (3, .ref a)] [] := by
    intro f
    induction f using Nat.strongRecOn with
    | _ f ih =>
    intro V1 i hf hi g1 g2
    have f1 := hd.off g2 (by omega)
    have kq := hk.spare hn (Nat.le_refl _) (by rw [← hae]; exact g2)
    refine k_iload 115 117 C dX0_trace_115 rfl 0 rfl ?_
    refine k_aload_n 117 118 C dX0_trace_117 rfl 4 rfl ?_
    refine k_getN 118 121 C dX0_trace_118 rfl ci_X1 7 fn_X0_94 (IsDrw.o hb) (by decide) rfl ?_
    refine k_rwI (f1.f7) ?_
    refine k_icmp_ge 121 243 124 C dX0_trace_121 (by decide) rfl (fun h121 => ?_) (fun h121 => ?_)
    · rw [n20 hd.le (Nat.le_trans hi hd.le)] at h121
      obtain rfl : i = rn d := by omega
      refine k_vret 243 C dX0_trace_243 rfl ?_
      exact ⟨g1.to rfl rfl rfl rfl rfl rfl rfl rfl (fun i hi => ⟨rfl, rfl, rfl⟩), g2⟩
    · rw [n20 hd.le (Nat.le_trans hi hd.le)] at h121
      have zl : i < rn d := by omega
      have z20 := hd.le
      refine k_aload_n 124 125 C dX0_trace_124 rfl 2 rfl ?_
      refine k_aload_n 125 126 C dX0_trace_125 rfl 4 rfl ?_
      refine k_iload 126 128 C dX0_trace_126 rfl 0 rfl ?_
      refine k_callVL 128 131 C [_] [_] dX0_trace_128 rfl (ct_X1_x hb f1) mi_X1_x ml_X0_83 im_X1_x se_X1_x ci_X1 (IsDrw.o hb) rfl rfl ⟨Nat.le_of_ble_eq_true rfl, Nat.le_of_ble_eq_true rfl⟩ (Nat.le_of_ble_eq_true rfl) (Nat.zero_le _) (Nat.zero_le _) (fun r128 V128 p128 => ?_)
      obtain ⟨rfl, rfl⟩ := And.intro p128.1.symm p128.2
      refine k_aload_n 131 132 C dX0_trace_131 rfl 4 rfl ?_
      refine k_getN 132 135 C dX0_trace_132 rfl ci_X1 2 fn_X0_90 (IsDrw.o hb) (by decide) rfl ?_
      refine k_rwL (f1.f2) ?_
      refine k_aload_n 135 136 C dX0_trace_135 rfl 2 rfl ?_
      refine k_get 136 139 C dX0_trace_136 rfl ci_X0 2 fl_X0_18 (IsDsk.o ‹_›) (by decide) rfl ?_
      refine k_rwI (kq.f 2 (by decide) (by decide)) ?_
      refine k_aload_n 139 140 C dX0_trace_139 rfl 2 rfl ?_
      refine k_callVI 140 143 C [] [_, _, _, _] dX0_trace_140 rfl (ct_X0_signX hD kq) mi_X0_signX ml_X0_140 im_X0_signX se_X0_signX ci_X0 (IsDsk.o ‹_›) rfl rfl ⟨Nat.le_of_ble_eq_true rfl, Nat.le_of_ble_eq_true rfl⟩ (Nat.le_of_ble_eq_true rfl) (Nat.zero_le _) (Nat.zero_le _) (fun r140 V140 p140 => ?_)
      obtain ⟨rfl, rfl⟩ := And.intro p140.1.symm p140.2
      refine k_callVL 143 146 C [_, _, _, _] [] dX0_trace_143 rfl (ct_X0_aim hD kq) mi_X0_aim ml_X0_150 im_X0_aim se_X0_aim ci_X0 (IsDsk.o ‹_›) rfl rfl ⟨Nat.le_of_ble_eq_true rfl, Nat.le_of_ble_eq_true rfl⟩ (Nat.le_of_ble_eq_true rfl) (Nat.zero_le _) (Nat.zero_le _) (fun r143 V143 p143 => ?_)
      obtain ⟨rfl, rfl⟩ := And.intro p143.1.symm p143.2
      refine k_lstore 146 148 C [(7, _), (6, _), (4, _), (0, _), (1, _), (2, _), (3, _)] dX0_trace_146 rfl (by decide) rfl ?_
      refine k_aload_n 148 149 C dX0_trace_148 rfl 3 rfl ?_
      refine k_aload_n 149 150 C dX0_trace_149 rfl 5 rfl ?_
      refine k_iload 150 152 C dX0_trace_150 rfl 1 rfl ?_
      refine k_callVL 152 155 C [_] [_] dX0_trace_152 rfl (ct_X1_y hb f1) mi_X1_y ml_X0_87 im_X1_y se_X1_y ci_X1 (IsDrw.o hb) rfl rfl ⟨Nat.le_of_ble_eq_true rfl, Nat.le_of_ble_eq_true rfl⟩ (Nat.le_of_ble_eq_true rfl) (Nat.zero_le _) (Nat.zero_le _) (fun r152 V152 p152 => ?_)
      obtain ⟨rfl, rfl⟩ := And.intro p152.1.symm p152.2
      refine k_aload_n 155 156 C dX0_trace_155 rfl 5 rfl ?_
      refine k_getN 156 159 C dX0_trace_156 rfl ci_X1 2 fn_X0_90 (IsDrw.o hb) (by decide) rfl ?_
      refine k_rwL (f1.f2) ?_
      refine k_aload_n 159 160 C dX0_trace_159 rfl 3 rfl ?_
      refine k_get 160 163 C dX0_trace_160 rfl ci_X0 3 fl_X0_21 (IsDsk.o ‹_›) (by decide) rfl ?_
      refine k_rwI (kq.f 3 (by decide) (by decide)) ?_
      refine k_aload_n 163 164 C dX0_trace_163 rfl 3 rfl ?_
      refine k_callVI 164 167 C [] [_, _, _, _] dX0_trace_164 rfl (ct_X0_signY hD kq) mi_X0_signY ml_X0_145 im_X0_signY se_X0_signY ci_X0 (IsDsk.o ‹_›) rfl rfl ⟨Nat.le_of_ble_eq_true rfl, Nat.le_of_ble_eq_true rfl⟩ (Nat.le_of_ble_eq_true rfl) (Nat.zero_le _) (Nat.zero_le _) (fun r164 V164 p164 => ?_)
      obtain ⟨rfl, rfl⟩ := And.intro p164.1.symm p164.2
      refine k_callVL 167 170 C [_, _, _, _] [] dX0_trace_167 rfl (ct_X0_aim hD kq) mi_X0_aim ml_X0_150 im_X0_aim se_X0_aim ci_X0 (IsDsk.o ‹_›) rfl rfl ⟨Nat.le_of_ble_eq_true rfl, Nat.le_of_ble_eq_true rfl⟩ (Nat.le_of_ble_eq_true rfl) (Nat.zero_le _) (Nat.zero_le _) (fun r167 V167 p167 => ?_)
      obtain ⟨rfl, rfl⟩ := And.intro p167.1.symm p167.2
      refine k_lstore 170 172 C [(9, _), (7, _), (6, _), (4, _), (0, _), (1, _), (2, _), (3, _)] dX0_trace_170 rfl (by decide) rfl ?_
      refine k_aload_n 172 173 C dX0_trace_172 rfl 6 rfl ?_
      refine k_iload 173 175 C dX0_trace_173 rfl 2 rfl ?_
      refine k_callVI 175 178 C [_] [] dX0_trace_175 rfl (ct_X1_isJoined hb f1) mi_X1_isJoined ml_X0_107 im_X1_isJoined se_X1_isJoined ci_X1 (IsDrw.o hb) rfl rfl ⟨Nat.le_of_ble_eq_true rfl, Nat.le_of_ble_eq_true rfl⟩ (Nat.le_of_ble_eq_true rfl) (Nat.zero_le _) (Nat.zero_le _) (fun r175 V175 p175 => ?_)
      obtain ⟨rfl, rfl⟩ := And.intro p175.1.symm p175.2
      refine k_ifb_eq 178 215 181 C dX0_trace_178 (by decide) rfl (fun h178 => ?_) (fun h178 => ?_)
      · refine k_aload_n 215 216 C dX0_trace_215 rfl 7 rfl ?_
        refine k_lload 216 218 C dX0_trace_216 rfl 1 rfl ?_
        refine k_lload 218 220 C dX0_trace_218 rfl 0 rfl ?_
        refine k_aload_n 220 221 C dX0_trace_220 rfl 6 rfl ?_
        refine k_iload 221 223 C dX0_trace_221 rfl 2 rfl ?_
        refine k_callVI 223 226 C [_] [_, _, _] dX0_trace_223 rfl (ct_X1_isJoined hb f1) mi_X1_isJoined ml_X0_107 im_X1_isJoined se_X1_isJoined ci_X1 (IsDrw.o hb) rfl rfl ⟨Nat.le_of_ble_eq_true rfl, Nat.le_of_ble_eq_true rfl⟩ (Nat.le_of_ble_eq_true rfl) (Nat.zero_le _) (Nat.zero_le _) (fun r223 V223 p223 => ?_)
        obtain ⟨rfl, rfl⟩ := And.intro p223.1.symm p223.2
        refine k_ifb_eq 226 233 229 C dX0_trace_226 (by decide) rfl (fun h226 => ?_) (fun h226 => ?_)
        · refine k_iconst 233 234 C dX0_trace_233 rfl (v := (-1)) rfl ?_
          refine k_callVV 234 237 C [_, _, _] [] dX0_trace_234 rfl (ct_X1_add ha g1 (show i < 20 by omega)) mi_X1_add ml_X0_161 im_X1_add se_X1_add ci_X1 (IsDrw.o ha) rfl rfl ⟨Nat.le_of_ble_eq_true rfl, Nat.le_of_ble_eq_true rfl⟩ (Nat.le_of_ble_eq_true rfl) (Nat.zero_le _) (Nat.zero_le _) (fun V234 p234 => ?_)
          refine k_iinc 237 240 C [(6, _), (9, _), (7, _), (4, _), (0, _), (1, _), (2, _), (3, _)] (nI (i + 1)) dX0_trace_237 rfl 2 rfl (nI_1 i) (by decide) rfl ?_
          refine k_goto 240 115 C dX0_trace_240 (by decide) ?_
          refine k_perm [0, 3, 4, 5, 6, 7] (L' := [(6, _), (4, _), (0, _), (1, _), (2, _), (3, _)]) rfl ?_
          have zs : DV V234 a (dTake (trD S num d) (i + 1)) := by
            first
              | exact absurd h226 h178
              | exact absurd h178 h226
              | exact take_step (t := trD S num d) (trX_u (Classical.not_not.mp h178)).symm (trY_u (Classical.not_not.mp h178)).symm (by show _ = trL d i; unfold trL; rw [if_pos (Classical.not_not.mp h178)]) p234.1
              | exact take_step (t := trD S num d) (trX_j h178 zi).symm (trY_j h178 zi).symm (by show _ = trL d i; unfold trL; rw [if_neg h178]) p234.1
          exact ih (rn d - (i + 1)) (by omega) V234 (i + 1) rfl (by omega) zs (g2.trans p234.2)
        · refine k_iconst 229 230 C dX0_trace_229 rfl (v := 0) rfl ?_
          refine k_goto 230 234 C dX0_trace_230 (by decide) ?_
          refine k_callVV 234 237 C [_, _, _] [] dX0_trace_234 rfl (ct_X1_add ha g1 (show i < 20 by omega)) mi_X1_add ml_X0_161 im_X1_add se_X1_add ci_X1 (IsDrw.o ha) rfl rfl ⟨Nat.le_of_ble_eq_true rfl, Nat.le_of_ble_eq_true rfl⟩ (Nat.le_of_ble_eq_true rfl) (Nat.zero_le _) (Nat.zero_le _) (fun V234 p234 => ?_)
          refine k_iinc 237 240 C [(6, _), (9, _), (7, _), (4, _), (0, _), (1, _), (2, _), (3, _)] (nI (i + 1)) dX0_trace_237 rfl 2 rfl (nI_1 i) (by decide) rfl ?_
          refine k_goto 240 115 C dX0_trace_240 (by decide) ?_
          refine k_perm [0, 3, 4, 5, 6, 7] (L' := [(6, _), (4, _), (0, _), (1, _), (2, _), (3, _)]) rfl ?_
          have zs : DV V234 a (dTake (trD S num d) (i + 1)) := by
            first
              | exact absurd h226 h178
              | exact absurd h178 h226
              | exact take_step (t := trD S num d) (trX_u (Classical.not_not.mp h178)).symm (trY_u (Classical.not_not.mp h178)).symm (by show _ = trL d i; unfold trL; rw [if_pos (Classical.not_not.mp h178)]) p234.1
              | exact take_step (t := trD S num d) (trX_j h178 zi).symm (trY_j h178 zi).symm (by show _ = trL d i; unfold trL; rw [if_neg h178]) p234.1
          exact ih (rn d - (i + 1)) (by omega) V234 (i + 1) rfl (by omega) zs (g2.trans p234.2)
      · have zi : 0 < i := dW_join hd.le zl hw h178
        refine k_aload_n 181 182 C dX0_trace_181 rfl 7 rfl ?_
        refine k_iload 182 184 C dX0_trace_182 rfl 2 rfl ?_
        refine k_iconst 184 185 C dX0_trace_184 rfl (v := 1) rfl ?_
        refine k_isub 185 186 C dX0_trace_185 rfl  ?_
        refine k_callVL 186 189 C [_] [] dX0_trace_186 rfl (ct_X1_x ha g1) mi_X1_x ml_X0_83 im_X1_x se_X1_x ci_X1 (IsDrw.o ha) rfl rfl ⟨Nat.le_of_ble_eq_true rfl, Nat.le_of_ble_eq_true rfl⟩ (Nat.le_of_ble_eq_true rfl) (Nat.zero_le _) (Nat.zero_le _) (fun r186 V186 p186 => ?_)
        obtain ⟨rfl, rfl⟩ := And.intro p186.1.symm p186.2
        refine k_rwL (pred_at zi (by omega)).1 ?_
        refine k_lload 189 191 C dX0_trace_189 rfl 1 rfl ?_
        refine k_lload 191 193 C dX0_trace_191 rfl 3 rfl ?_
        refine k_callSL 193 196 C [_, _, _] [] dX0_trace_193 rfl ct_X0_follow mi_X0_follow ml_X0_157 st_X0_follow rfl rfl ⟨Nat.le_of_ble_eq_true rfl, Nat.le_of_ble_eq_true rfl⟩ (Nat.le_of_ble_eq_true rfl) (Nat.zero_le _) (Nat.zero_le _) (fun r193 V193 p193 => ?_)
        obtain ⟨rfl, rfl⟩ := And.intro p193.1.symm p193.2
        refine k_lstore 196 198 C [(7, _), (9, _), (6, _), (4, _), (0, _), (1, _), (2, _), (3, _)] dX0_trace_196 rfl (by decide) rfl ?_
        refine k_aload_n 198 199 C dX0_trace_198 rfl 7 rfl ?_
        refine k_iload 199 201 C dX0_trace_199 rfl 2 rfl ?_
        refine k_iconst 201 202 C dX0_trace_201 rfl (v := 1) rfl ?_
        refine k_isub 202 203 C dX0_trace_202 rfl  ?_
        refine k_callVL 203 206 C [_] [] dX0_trace_203 rfl (ct_X1_y ha g1) mi_X1_y ml_X0_87 im_X1_y se_X1_y ci_X1 (IsDrw.o ha) rfl rfl ⟨Nat.le_of_ble_eq_true rfl, Nat.le_of_ble_eq_true rfl⟩ (Nat.le_of_ble_eq_true rfl) (Nat.zero_le _) (Nat.zero_le _) (fun r203 V203 p203 => ?_)
        obtain ⟨rfl, rfl⟩ := And.intro p203.1.symm p203.2
        refine k_rwL (pred_at zi (by omega)).2 ?_
        refine k_lload 206 208 C dX0_trace_206 rfl 1 rfl ?_
        refine k_lload 208 210 C dX0_trace_208 rfl 3 rfl ?_
        refine k_callSL 210 213 C [_, _, _] [] dX0_trace_210 rfl ct_X0_follow mi_X0_follow ml_X0_157 st_X0_follow rfl rfl ⟨Nat.le_of_ble_eq_true rfl, Nat.le_of_ble_eq_true rfl⟩ (Nat.le_of_ble_eq_true rfl) (Nat.zero_le _) (Nat.zero_le _) (fun r210 V210 p210 => ?_)
        obtain ⟨rfl, rfl⟩ := And.intro p210.1.symm p210.2
        refine k_lstore 213 215 C [(9, _), (7, _), (6, _), (4, _), (0, _), (1, _), (2, _), (3, _)] dX0_trace_213 rfl (by decide) rfl ?_
        refine k_aload_n 215 216 C dX0_trace_215 rfl 7 rfl ?_
        refine k_lload 216 218 C dX0_trace_216 rfl 1 rfl ?_
        refine k_lload 218 220 C dX0_trace_218 rfl 0 rfl ?_
        refine k_aload_n 220 221 C dX0_trace_220 rfl 6 rfl ?_
        refine k_iload 221 223 C dX0_trace_221 rfl 2 rfl ?_
        refine k_callVI 223 226 C [_] [_, _, _] dX0_trace_223 rfl (ct_X1_isJoined hb f1) mi_X1_isJoined ml_X0_107 im_X1_isJoined se_X1_isJoined ci_X1 (IsDrw.o hb) rfl rfl ⟨Nat.le_of_ble_eq_true rfl, Nat.le_of_ble_eq_true rfl⟩ (Nat.le_of_ble_eq_true rfl) (Nat.zero_le _) (Nat.zero_le _) (fun r223 V223 p223 => ?_)
        obtain ⟨rfl, rfl⟩ := And.intro p223.1.symm p223.2
        refine k_ifb_eq 226 233 229 C dX0_trace_226 (by decide) rfl (fun h226 => ?_) (fun h226 => ?_)
        · refine k_iconst 233 234 C dX0_trace_233 rfl (v := (-1)) rfl ?_
          refine k_callVV 234 237 C [_, _, _] [] dX0_trace_234 rfl (ct_X1_add ha g1 (show i < 20 by omega)) mi_X1_add ml_X0_161 im_X1_add se_X1_add ci_X1 (IsDrw.o ha) rfl rfl ⟨Nat.le_of_ble_eq_true rfl, Nat.le_of_ble_eq_true rfl⟩ (Nat.le_of_ble_eq_true rfl) (Nat.zero_le _) (Nat.zero_le _) (fun V234 p234 => ?_)
          refine k_iinc 237 240 C [(6, _), (9, _), (7, _), (4, _), (0, _), (1, _), (2, _), (3, _)] (nI (i + 1)) dX0_trace_237 rfl 2 rfl (nI_1 i) (by decide) rfl ?_
          refine k_goto 240 115 C dX0_trace_240 (by decide) ?_
          refine k_perm [0, 3, 4, 5, 6, 7] (L' := [(6, _), (4, _), (0, _), (1, _), (2, _), (3, _)]) rfl ?_
          have zs : DV V234 a (dTake (trD S num d) (i + 1)) := by
            first
              | exact absurd h226 h178
              | exact absurd h178 h226
              | exact take_step (t := trD S num d) (trX_u (Classical.not_not.mp h178)).symm (trY_u (Classical.not_not.mp h178)).symm (by show _ = trL d i; unfold trL; rw [if_pos (Classical.not_not.mp h178)]) p234.1
              | exact take_step (t := trD S num d) (trX_j h178 zi).symm (trY_j h178 zi).symm (by show _ = trL d i; unfold trL; rw [if_neg h178]) p234.1
          exact ih (rn d - (i + 1)) (by omega) V234 (i + 1) rfl (by omega) zs (g2.trans p234.2)
        · refine k_iconst 229 230 C dX0_trace_229 rfl (v := 0) rfl ?_
          refine k_goto 230 234 C dX0_trace_230 (by decide) ?_
          refine k_callVV 234 237 C [_, _, _] [] dX0_trace_234 rfl (ct_X1_add ha g1 (show i < 20 by omega)) mi_X1_add ml_X0_161 im_X1_add se_X1_add ci_X1 (IsDrw.o ha) rfl rfl ⟨Nat.le_of_ble_eq_true rfl, Nat.le_of_ble_eq_true rfl⟩ (Nat.le_of_ble_eq_true rfl) (Nat.zero_le _) (Nat.zero_le _) (fun V234 p234 => ?_)
          refine k_iinc 237 240 C [(6, _), (9, _), (7, _), (4, _), (0, _), (1, _), (2, _), (3, _)] (nI (i + 1)) dX0_trace_237 rfl 2 rfl (nI_1 i) (by decide) rfl ?_
          refine k_goto 240 115 C dX0_trace_240 (by decide) ?_
          refine k_perm [0, 3, 4, 5, 6, 7] (L' := [(6, _), (4, _), (0, _), (1, _), (2, _), (3, _)]) rfl ?_
          have zs : DV V234 a (dTake (trD S num d) (i + 1)) := by
            first
              | exact absurd h226 h178
              | exact absurd h178 h226
              | exact take_step (t := trD S num d) (trX_u (Classical.not_not.mp h178)).symm (trY_u (Classical.not_not.mp h178)).symm (by show _ = trL d i; unfold trL; rw [if_pos (Classical.not_not.mp h178)]) p234.1
              | exact take_step (t := trD S num d) (trX_j h178 zi).symm (trY_j h178 zi).symm (by show _ = trL d i; unfold trL; rw [if_neg h178]) p234.1
          exact ih (rn d - (i + 1)) (by omega) V234 (i + 1) rfl (by omega) zs (g2.trans p234.2)
  refine k_aload_n 0 1 C dX0_trace_0 rfl 3 rfl ?_
  refine k_iload_n 1 2 C dX0_trace_1 rfl 1 rfl ?_
  refine k_aload_n 2 3 C dX0_trace_2 rfl 2 rfl ?_
  refine k_getN 3 6 C dX0_trace_3 rfl ci_X1 1 fn_X0_134 (IsDrw.o hb) (by decide) rfl ?_
  refine k_rwL (hd.f1) ?_
  refine k_aload_n 6 7 C dX0_trace_6 rfl 0 rfl ?_
  refine k_get 7 10 C dX0_trace_7 rfl ci_X0 0 fl_X0_9 (IsDsk.o ‹_›) (by decide) rfl ?_
  refine k_rwI (hk.f 0 (by decide) (by decide)) ?_
  refine k_i2l 10 11 C dX0_trace_10 rfl  ?_
  refine k_lmul 11 12 C dX0_trace_11 rfl  ?_
  refine k_aload_n 12 13 C dX0_trace_12 rfl 2 rfl ?_
  refine k_getN 13 16 C dX0_trace_13 rfl ci_X1 2 fn_X0_90 (IsDrw.o hb) (by decide) rfl ?_
  refine k_rwL (hd.f2) ?_
  refine k_aload_n 16 17 C dX0_trace_16 rfl 0 rfl ?_
  refine k_get 17 20 C dX0_trace_17 rfl ci_X0 1 fl_X0_15 (IsDsk.o ‹_›) (by decide) rfl ?_
  refine k_rwI (hk.f 1 (by decide) (by decide)) ?_
  refine k_i2l 20 21 C dX0_trace_20 rfl  ?_
  refine k_lmul 21 22 C dX0_trace_21 rfl  ?_
  refine k_callVV 22 25 C [_, _, _] [] dX0_trace_22 rfl (ct_X1_begin ha) mi_X1_begin ml_X0_72 im_X1_begin se_X1_begin ci_X1 (IsDrw.o ha) rfl rfl ⟨Nat.le_of_ble_eq_true rfl, Nat.le_of_ble_eq_true rfl⟩ (Nat.le_of_ble_eq_true rfl) (Nat.zero_le _) (Nat.zero_le _) (fun V22 p22 => ?_)
  have e1 := hd.off p22.2 (by omega)
  have k1 := hk.spare hn (Nat.le_refl _) (by rw [← hae]; exact p22.2)
  refine k_aload_n 25 26 C dX0_trace_25 rfl 3 rfl ?_
  refine k_aload_n 26 27 C dX0_trace_26 rfl 2 rfl ?_
  refine k_getN 27 30 C dX0_trace_27 rfl ci_X1 3 fn_X0_137 (IsDrw.o hb) (by decide) rfl ?_
  refine k_rwI (e1.f3) ?_
  refine k_aload_n 30 31 C dX0_trace_30 rfl 0 rfl ?_
  refine k_callVI 31 34 C [] [_, _] dX0_trace_31 rfl (ct_X0_signX hD k1) mi_X0_signX ml_X0_140 im_X0_signX se_X0_signX ci_X0 (IsDsk.o ‹_›) rfl rfl ⟨Nat.le_of_ble_eq_true rfl, Nat.le_of_ble_eq_true rfl⟩ (Nat.le_of_ble_eq_true rfl) (Nat.zero_le _) (Nat.zero_le _) (fun r31 V31 p31 => ?_)
  obtain ⟨rfl, rfl⟩ := And.intro p31.1.symm p31.2
  refine k_imul 34 35 C dX0_trace_34 rfl  ?_
  refine k_putN 35 38 C dX0_trace_35 rfl ci_X1 3 fn_X0_137 (IsDrw.o ha) (by decide) rfl rfl rfl wI_off (ps_1_3 _ _ _ _) ?_
  have o1 := p22.2.wI (k := 3) (x := rsx d * sgX S) (Nat.le_refl a) (by omega)
  have e2 := hd.off o1 (by omega)
  have k2 := hk.spare hn (Nat.le_refl _) (by rw [← hae]; exact o1)
  refine k_aload_n 38 39 C dX0_trace_38 rfl 3 rfl ?_
  refine k_aload_n 39 40 C dX0_trace_39 rfl 2 rfl ?_
  refine k_getN 40 43 C dX0_trace_40 rfl ci_X1 4 fn_X0_142 (IsDrw.o hb) (by decide) rfl ?_
  refine k_rwI (e2.f4) ?_
  refine k_aload_n 43 44 C dX0_trace_43 rfl 0 rfl ?_
  refine k_callVI 44 47 C [] [_, _] dX0_trace_44 rfl (ct_X0_signY hD k2) mi_X0_signY ml_X0_145 im_X0_signY se_X0_signY ci_X0 (IsDsk.o ‹_›) rfl rfl ⟨Nat.le_of_ble_eq_true rfl, Nat.le_of_ble_eq_true rfl⟩ (Nat.le_of_ble_eq_true rfl) (Nat.zero_le _) (Nat.zero_le _) (fun r44 V44 p44 => ?_)
  obtain ⟨rfl, rfl⟩ := And.intro p44.1.symm p44.2
  refine k_imul 47 48 C dX0_trace_47 rfl  ?_
  refine k_putN 48 51 C dX0_trace_48 rfl ci_X1 4 fn_X0_142 (IsDrw.o ha) (by decide) rfl rfl rfl wI_off (ps_1_4 _ _ _ _) ?_
  have o2 := o1.wI (k := 4) (x := rsy d * sgY S) (Nat.le_refl a) (by omega)
  have e3 := hd.off o2 (by omega)
  have k3 := hk.spare hn (Nat.le_refl _) (by rw [← hae]; exact o2)
  refine k_aload_n 51 52 C dX0_trace_51 rfl 3 rfl ?_
  refine k_aload_n 52 53 C dX0_trace_52 rfl 0 rfl ?_
  refine k_aload_n 53 54 C dX0_trace_53 rfl 2 rfl ?_
  refine k_getN 54 57 C dX0_trace_54 rfl ci_X1 5 fn_X0_147 (IsDrw.o hb) (by decide) rfl ?_
  refine k_rwL (e3.f5) ?_
  refine k_aload_n 57 58 C dX0_trace_57 rfl 2 rfl ?_
  refine k_getN 58 61 C dX0_trace_58 rfl ci_X1 2 fn_X0_90 (IsDrw.o hb) (by decide) rfl ?_
  refine k_rwL (e3.f2) ?_
  refine k_aload_n 61 62 C dX0_trace_61 rfl 0 rfl ?_
  refine k_get 62 65 C dX0_trace_62 rfl ci_X0 2 fl_X0_18 (IsDsk.o ‹_›) (by decide) rfl ?_
  refine k_rwI (k3.f 2 (by decide) (by decide)) ?_
  refine k_aload_n 65 66 C dX0_trace_65 rfl 0 rfl ?_
  refine k_callVI 66 69 C [] [_, _, _, _, _] dX0_trace_66 rfl (ct_X0_signX hD k3) mi_X0_signX ml_X0_140 im_X0_signX se_X0_signX ci_X0 (IsDsk.o ‹_›) rfl rfl ⟨Nat.le_of_ble_eq_true rfl, Nat.le_of_ble_eq_true rfl⟩ (Nat.le_of_ble_eq_true rfl) (Nat.zero_le _) (Nat.zero_le _) (fun r66 V66 p66 => ?_)
  obtain ⟨rfl, rfl⟩ := And.intro p66.1.symm p66.2
  refine k_callVL 69 72 C [_, _, _, _] [_] dX0_trace_69 rfl (ct_X0_aim hD k3) mi_X0_aim ml_X0_150 im_X0_aim se_X0_aim ci_X0 (IsDsk.o ‹_›) rfl rfl ⟨Nat.le_of_ble_eq_true rfl, Nat.le_of_ble_eq_true rfl⟩ (Nat.le_of_ble_eq_true rfl) (Nat.zero_le _) (Nat.zero_le _) (fun r69 V69 p69 => ?_)
  obtain ⟨rfl, rfl⟩ := And.intro p69.1.symm p69.2
  refine k_putN 72 75 C dX0_trace_72 rfl ci_X1 5 fn_X0_147 (IsDrw.o ha) (by decide) rfl rfl rfl wL_off (ps_1_5 _ _ _ _) ?_
  have o3 := o2.wL (k := 5) (x := sAim S (rhx d) (rpt d) (kf S 2) (sgX S)) (Nat.le_refl a) (by omega)
  have e4 := hd.off o3 (by omega)
  have k4 := hk.spare hn (Nat.le_refl _) (by rw [← hae]; exact o3)
  refine k_aload_n 75 76 C dX0_trace_75 rfl 3 rfl ?_
  refine k_aload_n 76 77 C dX0_trace_76 rfl 0 rfl ?_
  refine k_aload_n 77 78 C dX0_trace_77 rfl 2 rfl ?_
  refine k_getN 78 81 C dX0_trace_78 rfl ci_X1 6 fn_X0_154 (IsDrw.o hb) (by decide) rfl ?_
  refine k_rwL (e4.f6) ?_
  refine k_aload_n 81 82 C dX0_trace_81 rfl 2 rfl ?_
  refine k_getN 82 85 C dX0_trace_82 rfl ci_X1 2 fn_X0_90 (IsDrw.o hb) (by decide) rfl ?_
  refine k_rwL (e4.f2) ?_
  refine k_aload_n 85 86 C dX0_trace_85 rfl 0 rfl ?_
  refine k_get 86 89 C dX0_trace_86 rfl ci_X0 3 fl_X0_21 (IsDsk.o ‹_›) (by decide) rfl ?_
  refine k_rwI (k4.f 3 (by decide) (by decide)) ?_
  refine k_aload_n 89 90 C dX0_trace_89 rfl 0 rfl ?_
  refine k_callVI 90 93 C [] [_, _, _, _, _] dX0_trace_90 rfl (ct_X0_signY hD k4) mi_X0_signY ml_X0_145 im_X0_signY se_X0_signY ci_X0 (IsDsk.o ‹_›) rfl rfl ⟨Nat.le_of_ble_eq_true rfl, Nat.le_of_ble_eq_true rfl⟩ (Nat.le_of_ble_eq_true rfl) (Nat.zero_le _) (Nat.zero_le _) (fun r90 V90 p90 => ?_)
  obtain ⟨rfl, rfl⟩ := And.intro p90.1.symm p90.2
  refine k_callVL 93 96 C [_, _, _, _] [_] dX0_trace_93 rfl (ct_X0_aim hD k4) mi_X0_aim ml_X0_150 im_X0_aim se_X0_aim ci_X0 (IsDsk.o ‹_›) rfl rfl ⟨Nat.le_of_ble_eq_true rfl, Nat.le_of_ble_eq_true rfl⟩ (Nat.le_of_ble_eq_true rfl) (Nat.zero_le _) (Nat.zero_le _) (fun r93 V93 p93 => ?_)
  obtain ⟨rfl, rfl⟩ := And.intro p93.1.symm p93.2
  refine k_putN 96 99 C dX0_trace_96 rfl ci_X1 6 fn_X0_154 (IsDrw.o ha) (by decide) rfl rfl rfl wL_off (ps_1_6 _ _ _ _) ?_
  have o4 := o3.wL (k := 6) (x := sAim S (rhy d) (rpt d) (kf S 3) (sgY S)) (Nat.le_refl a) (by omega)
  have e5 := hd.off o4 (by omega)
  have k5 := hk.spare hn (Nat.le_refl _) (by rw [← hae]; exact o4)
  refine k_aload_n 99 100 C dX0_trace_99 rfl 0 rfl ?_
  refine k_iconst 100 101 C dX0_trace_100 rfl (v := 1) rfl ?_
  refine k_callVI 101 104 C [_] [] dX0_trace_101 rfl (ct_X0_setting hD k5) mi_X0_setting ml_X0_56 im_X0_setting se_X0_setting ci_X0 (IsDsk.o ‹_›) rfl rfl ⟨Nat.le_of_ble_eq_true rfl, Nat.le_of_ble_eq_true rfl⟩ (Nat.le_of_ble_eq_true rfl) (Nat.zero_le _) (Nat.zero_le _) (fun r101 V101 p101 => ?_)
  obtain ⟨rfl, rfl⟩ := And.intro p101.1.symm p101.2
  refine k_rwI (show sSet S 1 = ks S 1 from rfl) ?_
  refine k_i2l 104 105 C dX0_trace_104 rfl  ?_
  refine k_aload_n 105 106 C dX0_trace_105 rfl 3 rfl ?_
  refine k_getN 106 109 C dX0_trace_106 rfl ci_X1 2 fn_X0_90 (IsDrw.o ha) (by decide) rfl ?_
  refine k_rwL (y := rpt d * (kf S 1).toInt64) (by simp [wI, wL, vp_updL]; exact p22.1.f2) ?_
  refine k_lmul 109 110 C dX0_trace_109 rfl  ?_
  refine k_lstore 110 112 C [(4, _), (0, _), (1, _), (2, _), (3, _)] dX0_trace_110 rfl (by decide) rfl ?_
  refine k_iconst 112 113 C dX0_trace_112 rfl (v := 0) rfl ?_
  refine k_istore 113 115 C [(6, _), (4, _), (0, _), (1, _), (2, _), (3, _)] dX0_trace_113 rfl (by decide) rfl ?_
  refine loop115 _ _ 0 rfl (Nat.zero_le _) ?_ o4
  obtain ⟨q0, q1, q2, q3, q4, q5, q6, q7, q8, q9⟩ := p22.1
  exact ⟨by simp [wI, wL, upd]; exact q0, by simp [wI, wL, vp_updL]; exact q1, by simp [wI, wL, vp_updL]; exact q2, by simp [wI, wL, upd]; rfl, by simp [wI, wL, upd]; rfl, by simp [wI, wL, vp_updL]; rfl, by simp [wI, wL, vp_updL]; rfl, by simp [wI, wL, upd]; exact q7, Nat.zero_le _, fun i hi => absurd hi (Nat.not_lt_zero i)⟩
end
section
set_option maxHeartbeats 4000000 in
set_option maxRecDepth 100000 in
theorem ct_X0_reasonAgainst {E : gE} {T : gT} {l : Launch} {V : gV} {D j0 : Nat} {S : Dk} {π : Nat → Nat} {num : Int32} (hD : IsDsk T D) (hk : DK V D S π) (hj : j0 < kn S) : CtI E T l yX0_reasonAgainst (gw yX0_reasonAgainst cX0_reasonAgainst 4 (some .int)) { frames := 4, cells := 0, slots := 0, locals := 93 } [.ref D, .int num, .ref (D + 3 + 4 * π j0)] V (fun (r : Int32) (V' : gV) => r = rsn S num (kdr S j0) ∧ DK V' D S π ∧ Off V V' D (D + 27) ∧ (r = 0 → kn S < 6 ∧ DV V' (D + 3 + 4 * π (kn S)) (trD S num (kdr S j0)))) := by
  refine ctI_of (L := [(0, .ref D), (1, .int num), (2, .ref (D + 3 + 4 * π j0))]) (by decide) rfl (Nat.le_of_ble_eq_true rfl) rfl (fun p e s m args below meth c C => ?_)
  have zk6 := hk.le
  have hb := hD.d _ (hk.p j0 (by omega))
  have hd := hk.d j0 hj
  have hw := hk.w j0 hj
  refine k_aload_n 0 1 C dX0_reasonAgainst_0 rfl 2 rfl ?_
  refine k_getN 1 4 C dX0_reasonAgainst_1 rfl ci_X1 7 fn_X0_94 (IsDrw.o hb) (by decide) rfl ?_
  refine k_rwI (hd.f7) ?_
  refine k_iconst 4 5 C dX0_reasonAgainst_4 rfl (v := 1) rfl ?_
  refine k_icmp_ge 5 10 8 C dX0_reasonAgainst_5 (by decide) rfl (fun h5 => ?_) (fun h5 => ?_)
  · have z5 : nI 1 ≤ nI (rn (kdr S j0)) := h5
    rw [n20 (by omega) hd.le] at z5
    have z6 : ¬ rn (kdr S j0) < 1 := by omega
    refine k_aload_n 10 11 C dX0_reasonAgainst_10 rfl 0 rfl ?_
    refine k_callVI 11 14 C [] [] dX0_reasonAgainst_11 rfl (ct_X0_isBlunt hD hk) mi_X0_isBlunt ml_X0_124 im_X0_isBlunt se_X0_isBlunt ci_X0 (IsDsk.o ‹_›) rfl rfl ⟨Nat.le_of_ble_eq_true rfl, Nat.le_of_ble_eq_true rfl⟩ (Nat.le_of_ble_eq_true rfl) (Nat.zero_le _) (Nat.zero_le _) (fun r11 V11 p11 => ?_)
    obtain ⟨rfl, rfl⟩ := And.intro p11.1.symm p11.2
    refine k_ifb_eq 14 19 17 C dX0_reasonAgainst_14 (by decide) rfl (fun h14 => ?_) (fun h14 => ?_)
    · refine k_aload_n 19 20 C dX0_reasonAgainst_19 rfl 0 rfl ?_
      refine k_callVQ 20 23 C [] [] dX0_reasonAgainst_20 rfl (ct_X0_spare hD hk) mi_X0_spare ml_X0_68 im_X0_spare se_X0_spare ci_X0 (IsDsk.o ‹_›) rfl rfl ⟨Nat.le_of_ble_eq_true rfl, Nat.le_of_ble_eq_true rfl⟩ (Nat.le_of_ble_eq_true rfl) (Nat.zero_le _) (Nat.zero_le _) (fun r20 V20 p20 => ?_)
      obtain ⟨rfl, rfl⟩ := And.intro p20.1.symm p20.2
      rcases Nat.lt_or_ge (kn S) 6 with zl | zl
      · refine k_rwQ (if_pos zl) ?_
        have zq := hD.d _ (hk.p _ zl)
        have zne : π (kn S) ≠ π j0 := fun zz => by have := hk.inj _ _ zl (by omega) zz; omega
        refine k_astore_n 23 24 C [(3, _), (0, _), (1, _), (2, _)] dX0_reasonAgainst_23 rfl (by decide) rfl ?_
        refine k_aload_n 24 25 C dX0_reasonAgainst_24 rfl 0 rfl ?_
        refine k_ifnonnullO 25 30 C dX0_reasonAgainst_25 (by decide) ?_
        refine k_aload_n 30 31 C dX0_reasonAgainst_30 rfl 1 rfl ?_
        refine k_iload_n 31 32 C dX0_reasonAgainst_31 rfl 2 rfl ?_
        refine k_aload_n 32 33 C dX0_reasonAgainst_32 rfl 3 rfl ?_
        refine k_aload_n 33 34 C dX0_reasonAgainst_33 rfl 0 rfl ?_
        refine k_callVV 34 37 C [_, _, _] [] dX0_reasonAgainst_34 rfl (ct_X0_trace hD hk zl rfl hb hd hw (by omega)) mi_X0_trace ml_X0_127 im_X0_trace se_X0_trace ci_X0 (IsDsk.o ‹_›) rfl rfl ⟨Nat.le_of_ble_eq_true rfl, Nat.le_of_ble_eq_true rfl⟩ (Nat.le_of_ble_eq_true rfl) (Nat.zero_le _) (Nat.zero_le _) (fun V34 p34 => ?_)
        obtain ⟨z1, z2⟩ := p34
        have zk := hk.spare zl (Nat.le_refl _) z2
        have zo := z2.wide (lo' := D) (hi' := D + 27) (by omega) (by have := hk.p _ zl; omega)
        refine k_aload_n 37 38 C dX0_reasonAgainst_37 rfl 0 rfl ?_
        refine k_callVI 38 41 C [] [] dX0_reasonAgainst_38 rfl (ct_X1_isTooFine zq z1) mi_X1_isTooFine ml_X0_131 im_X1_isTooFine se_X1_isTooFine ci_X1 (IsDrw.o zq) rfl rfl ⟨Nat.le_of_ble_eq_true rfl, Nat.le_of_ble_eq_true rfl⟩ (Nat.le_of_ble_eq_true rfl) (Nat.zero_le _) (Nat.zero_le _) (fun r38 V38 p38 => ?_)
        obtain ⟨rfl, rfl⟩ := And.intro p38.1.symm p38.2
        refine k_ifb_eq 41 48 44 C dX0_reasonAgainst_41 (by decide) rfl (fun h41 => ?_) (fun h41 => ?_)
        · refine k_iconst 48 49 C dX0_reasonAgainst_48 rfl (v := 0) rfl ?_
          refine k_iret 49 C dX0_reasonAgainst_49 rfl ?_
          first | exact ⟨by unfold rsn; rw [if_neg z6, if_neg h14, if_neg (Classical.not_not.mpr zl), if_pos h41], zk, zo, fun zz => absurd zz (by decide)⟩ | exact ⟨by unfold rsn; rw [if_neg z6, if_neg h14, if_neg (Classical.not_not.mpr zl), if_neg h41], zk, zo, fun _ => ⟨zl, z1⟩⟩
        · refine k_iconst 44 45 C dX0_reasonAgainst_44 rfl (v := 4) rfl ?_
          refine k_goto 45 49 C dX0_reasonAgainst_45 (by decide) ?_
          refine k_iret 49 C dX0_reasonAgainst_49 rfl ?_
          first | exact ⟨by unfold rsn; rw [if_neg z6, if_neg h14, if_neg (Classical.not_not.mpr zl), if_pos h41], zk, zo, fun zz => absurd zz (by decide)⟩ | exact ⟨by unfold rsn; rw [if_neg z6, if_neg h14, if_neg (Classical.not_not.mpr zl), if_neg h41], zk, zo, fun _ => ⟨zl, z1⟩⟩
      · refine k_rwQ (if_neg (Nat.not_lt.mpr zl)) ?_
        refine k_astore_nq 23 24 C [(3, _), (0, _), (1, _), (2, _)] dX0_reasonAgainst_23 rfl (by decide) rfl ?_
        refine k_aload_nq 24 25 C dX0_reasonAgainst_24 rfl 0 rfl ?_
        refine k_ifnonnullN 25 28 C dX0_reasonAgainst_25 rfl ?_
        refine k_iconst 28 29 C dX0_reasonAgainst_28 rfl (v := 3) rfl ?_
        refine k_iret 29 C dX0_reasonAgainst_29 rfl ?_
        exact ⟨by unfold rsn; rw [if_neg z6, if_neg h14, if_pos (Nat.not_lt.mpr zl)], hk, Off.rf, fun zz => absurd zz (by decide)⟩
    · refine k_iconst 17 18 C dX0_reasonAgainst_17 rfl (v := 2) rfl ?_
      refine k_iret 18 C dX0_reasonAgainst_18 rfl ?_
      exact ⟨by unfold rsn; rw [if_neg z6, if_pos h14], hk, Off.rf, fun zz => absurd zz (by decide)⟩
  · have z5 : ¬ nI 1 ≤ nI (rn (kdr S j0)) := h5
    rw [n20 (by omega) hd.le] at z5
    have z6 : rn (kdr S j0) < 1 := by omega
    refine k_iconst 8 9 C dX0_reasonAgainst_8 rfl (v := 1) rfl ?_
    refine k_iret 9 C dX0_reasonAgainst_9 rfl ?_
    exact ⟨by unfold rsn; rw [if_pos z6], hk, Off.rf, fun zz => absurd zz (by decide)⟩
def DKr (V : gV) (D : Nat) (π : Nat → Nat) : Prop := (∀ j, j < 6 → π j < 6 ∧ V.2.2 (D + 2) j = some (D + 3 + 4 * π j)) ∧ ∀ i j, i < 6 → j < 6 → π i = π j → i = j
theorem DK.rows {V : gV} {D : Nat} {S : Dk} {π : Nat → Nat} (h : DK V D S π) : DKr V D π := ⟨h.2.2.2.2.1, h.2.2.2.2.2.1⟩
def sFn (D n : Nat) (π : Nat → Nat) (i : Int32) : Option Nat := if ¬ i < 0 ∧ ¬ nI n ≤ i then some (D + 3 + 4 * π i.toNatClampNeg) else none
theorem sFn_at {D n : Nat} {π : Nat → Nat} {j : Nat} (hn : n ≤ 6) (hj : j < n) : sFn D n π (nI j) = some (D + 3 + 4 * π j) := by
  unfold sFn
  rw [if_pos ⟨nI_pos (by omega), by rw [n6 (by omega) (by omega)]; omega⟩, nI_clamp (by omega)]
theorem sFn_out {D n : Nat} {π : Nat → Nat} {i : Int32} (h : ¬ (¬ i < 0 ∧ ¬ nI n ≤ i)) : sFn D n π i = none := if_neg h
set_option maxHeartbeats 4000000 in
set_option maxRecDepth 100000 in
theorem ct_X0_findb {E : gE} {T : gT} {l : Launch} {V : gV} {i : Int32} {D n : Nat} {π : Nat → Nat} (hD : IsDsk T D) (hr : DKr V D π) (hz : V.1 D 11 = nI n) (hn : n ≤ 6) : CtQ E T l yX0_find (gw yX0_find cX0_find 2 (some (.object "PantographArm$Drawing"))) { frames := 0, cells := 0, slots := 0, locals := 0 } [.ref D, .int i] V (fun (r : Option Nat) (V' : gV) => V' = V ∧ r = sFn D n π i) := by
  refine ctQ_of (L := [(0, .ref D), (1, .int i)]) (by decide) rfl (Nat.le_of_ble_eq_true rfl) rfl (fun p e s m args below meth c C => ?_)
  refine k_iload_n 0 1 C dX0_find_0 rfl 1 rfl ?_
  refine k_if_lt 1 30 4 C dX0_find_1 (by decide) rfl (fun h1 => ?_) (fun h1 => ?_)
  · refine k_null 30 31 C dX0_find_30 rfl  ?_
    refine k_aret 31 C (x := none) dX0_find_31 rfl (Or.inl ⟨_, rfl⟩) ?_
    first | exact ⟨rfl, (sFn_out (fun z => z.1 h1)).symm⟩ | exact ⟨rfl, (sFn_out (fun z => z.2 h9)).symm⟩ | exact ⟨rfl, by unfold sFn; rw [if_pos ⟨h1, h9⟩, nI_clamp hj]⟩
  · refine k_iload_n 4 5 C dX0_find_4 rfl 1 rfl ?_
    refine k_aload_n 5 6 C dX0_find_5 rfl 0 rfl ?_
    refine k_get 6 9 C dX0_find_6 rfl ci_X0 11 fl_X0_52 (IsDsk.o ‹_›) (by decide) rfl ?_
    refine k_rwI (hz) ?_
    refine k_icmp_ge 9 30 12 C dX0_find_9 (by decide) rfl (fun h9 => ?_) (fun h9 => ?_)
    · refine k_null 30 31 C dX0_find_30 rfl  ?_
      refine k_aret 31 C (x := none) dX0_find_31 rfl (Or.inl ⟨_, rfl⟩) ?_
      first | exact ⟨rfl, (sFn_out (fun z => z.1 h1)).symm⟩ | exact ⟨rfl, (sFn_out (fun z => z.2 h9)).symm⟩ | exact ⟨rfl, by unfold sFn; rw [if_pos ⟨h1, h9⟩, nI_clamp hj]⟩
    · obtain ⟨j, hj, rfl⟩ := nI_of h1
      have h9b := h9
      rw [nI_leI (by omega) hj] at h9b
      have hj6 : j < 6 := by omega
      refine k_iload_n 12 13 C dX0_find_12 rfl 1 rfl ?_
      refine k_aload_n 13 14 C dX0_find_13 rfl 0 rfl ?_
      refine k_getF 14 17 C dX0_find_14 rfl ci_X0 10 fl_X0_48 (IsDsk.o ‹_›) (by decide) (IsDsk.f10 ‹_›) rfl ?_
      refine k_alen 17 18 C dX0_find_17 rfl (IsDsk.a10 ‹_›) (by decide) (v := 6) rfl ?_
      refine k_icmp_ge 18 30 21 C dX0_find_18 (by decide) rfl (fun h18 => ?_) (fun h18 => ?_)
      · exact absurd (show nI 6 ≤ nI j from h18) (by rw [nI_leI (by omega) (by omega)]; omega)
      · refine k_aload_n 21 22 C dX0_find_21 rfl 0 rfl ?_
        refine k_getF 22 25 C dX0_find_22 rfl ci_X0 10 fl_X0_48 (IsDsk.o ‹_›) (by decide) (IsDsk.f10 ‹_›) rfl ?_
        refine k_iload_n 25 26 C dX0_find_25 rfl 1 rfl ?_
        refine k_aald2 26 27 C dX0_find_26 rfl (IsDsk.a10 ‹_›) (vp_in_nI hj6 (by decide)) ?_
        rw [nI_clamp hj]
        refine k_rwQ (hr.1 j hj6).2 ?_
        refine k_goto 27 31 C dX0_find_27 (by decide) ?_
        refine k_aret 31 C dX0_find_31 rfl (Or.inl ⟨_, rfl⟩) ?_
        first | exact ⟨rfl, (sFn_out (fun z => z.1 h1)).symm⟩ | exact ⟨rfl, (sFn_out (fun z => z.2 h9)).symm⟩ | exact ⟨rfl, by unfold sFn; rw [if_pos ⟨h1, h9⟩, nI_clamp hj]⟩
def DKp (V : gV) (D : Nat) (S : Dk) (π : Nat → Nat) (m : Nat) : Prop := (∀ j, j < 10 → j ≠ 4 → V.1 D j = kf S j) ∧ (∀ j, j < 5 → V.1 (D + 1) j = ks S j) ∧ V.1 D 11 = nI (kn S) ∧ kn S ≤ 6 ∧ DKr V D π ∧ ∀ i, i < m → DV V (D + 3 + 4 * π i) (kdr S i) ∧ dW (kdr S i)
theorem DKp.all {V : gV} {D : Nat} {S : Dk} {π : Nat → Nat} (h : DKp V D S π (kn S)) : DK V D S π := ⟨h.1, h.2.1, h.2.2.1, h.2.2.2.1, h.2.2.2.2.1.1, h.2.2.2.2.1.2, h.2.2.2.2.2⟩
def TF (V1 : gV) (D : Nat) (S : Dk) (π : Nat → Nat) (i : Nat) : Prop := V1.1 D 0 = kf S 0 ∧ V1.1 D 1 = kf S 1 ∧ V1.1 D 2 = kf S 2 ∧ V1.1 D 3 = kf S 3 ∧ (∀ j, j < i → V1.1 (D + 1) j = ks S j) ∧ DKr V1 D π
theorem TF.step {V1 : gV} {D : Nat} {S : Dk} {π : Nat → Nat} {i : Nat} (h : TF V1 D S π i) : TF (wI V1 (D + 1) i (ks S i)) D S π (i + 1) := by
  obtain ⟨h0, h1, h2, h3, h4, h5⟩ := h
  have ho : ∀ b, b ≠ D + 1 → (wI V1 (D + 1) i (ks S i)).1 b = V1.1 b := fun b hb => (wI_off b hb).1
  refine ⟨by rw [ho D (by omega)]; exact h0, by rw [ho D (by omega)]; exact h1, by rw [ho D (by omega)]; exact h2, by rw [ho D (by omega)]; exact h3, fun j hj => ?_, h5⟩
  by_cases e : j = i
  · subst e; simp [wI, upd]
  · simp only [wI, upd, if_true, e, if_false]; exact h4 j (by omega)
theorem TF.fin {V1 : gV} {D : Nat} {S : Dk} {π : Nat → Nat} (h : TF V1 D S π 5) (hn : kn S ≤ 6) : DKp (wI (wI (wI (wI (wI (wI V1 D 5 (kf S 5)) D 6 (kf S 6)) D 7 (kf S 7)) D 8 (kf S 8)) D 9 (kf S 9)) D 11 (nI (kn S))) D S π 0 := by
  obtain ⟨h0, h1, h2, h3, h4, h5⟩ := h
  refine ⟨fun j a b => ?_, fun j hj => ?_, by simp [wI, upd], hn, h5, fun i hi => absurd hi (Nat.not_lt_zero i)⟩
  · rcases (show j = 0 ∨ j = 1 ∨ j = 2 ∨ j = 3 ∨ j = 5 ∨ j = 6 ∨ j = 7 ∨ j = 8 ∨ j = 9 by omega) with rfl | rfl | rfl | rfl | rfl | rfl | rfl | rfl | rfl <;> simp [wI, upd] <;> assumption
  · have := h4 j hj
    simp only [wI, show ¬ D + 1 = D by omega, if_false]; exact this
theorem DKp.step {V1 V2 : gV} {D : Nat} {S : Dk} {π : Nat → Nat} {i : Nat} (h : DKp V1 D S π i) (hi : i < 6) (ho : Off V1 V2 (D + 3 + 4 * π i) (D + 3 + 4 * π i + 4)) (hd : DV V2 (D + 3 + 4 * π i) (kdr S i)) (hw : dW (kdr S i)) : DKp V2 D S π (i + 1) := by
  obtain ⟨h1, h2, h3, h4, h5, h7⟩ := h
  by_cases h6 : i < 6
  · have e0 := ho D (by omega)
    have e1 := ho (D + 1) (by omega)
    have e2 := ho (D + 2) (by omega)
    refine ⟨fun j a b => by rw [e0.1]; exact h1 j a b, fun j a => by rw [e1.1]; exact h2 j a, by rw [e0.1]; exact h3, h4, ⟨fun j a => by rw [e2.2.2]; exact h5.1 j a, h5.2⟩, fun k a => ?_⟩
    by_cases ek : k = i
    · subst ek; exact ⟨hd, hw⟩
    · have hp : π k ≠ π i := fun z => ek (h5.2 k i (by omega) h6 z)
      exact ⟨(h7 k (by omega)).1.off ho (by omega), (h7 k (by omega)).2⟩
  · exact absurd hi h6
set_option maxHeartbeats 4000000 in
set_option maxRecDepth 100000 in
theorem ct_X0_takeFrom {E : gE} {T : gT} {l : Launch} {V : gV} {D D2 : Nat} {S : Dk} {π π2 : Nat → Nat} (hD : IsDsk T D) (h2 : IsDsk T D2) (hr : DKr V D π) (hk : DK V D2 S π2) (hap : D + 27 ≤ D2 ∨ D2 + 27 ≤ D) : CtV E T l yX0_takeFrom (gw yX0_takeFrom cX0_takeFrom 5 none) { frames := 3, cells := 0, slots := 0, locals := 64 } [.ref D, .ref D2] V (fun (V' : gV) => DK V' D S π ∧ Off V V' D (D + 27)) := by
  refine ctV_of (L := [(0, .ref D), (1, .ref D2)]) (by decide) rfl (Nat.le_of_ble_eq_true rfl) rfl (fun p e s m args below meth c C => ?_)
  have loop110 : ∀ (f : Nat) (V1 : gV) (i : Nat), kn S - i = f → (i ≤ kn S) → (DKp V1 D S π i) → (Off V V1 D (D + 27)) → KW E T V1 p l e { frames := 3, cells := 0, slots := 0, locals := 64 } s m args below meth c 5 0 0 (MQ below (va_Qv (fun (V' : gV) => DK V' D S π ∧ Off V V' D (D + 27)) (RepS E T) (gA E)) args s 0 0 (gA E)) 110 [(2, .int (nI i)), (0, .ref D), (1, .ref D2)] [] := by
    intro f
    induction f using Nat.strongRecOn with
    | _ f ih =>
    intro V1 i hf hi g3 g4
    have kr := hk.off g4 (by omega)
    refine k_iload_n 110 111 C dX0_takeFrom_110 rfl 0 rfl ?_
    refine k_aload_n 111 112 C dX0_takeFrom_111 rfl 1 rfl ?_
    refine k_get 112 115 C dX0_takeFrom_112 rfl ci_X0 11 fl_X0_52 (IsDsk.o hD) (by decide) rfl ?_
    refine k_rwI (g3.2.2.1) ?_
    refine k_icmp_ge 115 152 118 C dX0_takeFrom_115 (by decide) rfl (fun h115 => ?_) (fun h115 => ?_)
    · rw [n6 (by have := hk.le; omega) (by have := hk.le; omega)] at h115
      obtain rfl : i = kn S := by omega
      refine k_vret 152 C dX0_takeFrom_152 rfl ?_
      exact ⟨(show DKp V1 D S π (kn S) from g3).all, g4⟩
    · rw [n6 (by have := hk.le; omega) (by have := hk.le; omega)] at h115
      have zl : i < kn S := by omega
      have z6 := hk.le
      refine k_aload_n 118 119 C dX0_takeFrom_118 rfl 1 rfl ?_
      refine k_iload_n 119 120 C dX0_takeFrom_119 rfl 0 rfl ?_
      refine k_callVQ 120 123 C [_] [] dX0_takeFrom_120 rfl (ct_X0_findb hD g3.2.2.2.2.1 g3.2.2.1 hk.le) mi_X0_find ml_X0_60 im_X0_find se_X0_find ci_X0 (IsDsk.o hD) rfl rfl ⟨Nat.le_of_ble_eq_true rfl, Nat.le_of_ble_eq_true rfl⟩ (Nat.le_of_ble_eq_true rfl) (Nat.zero_le _) (Nat.zero_le _) (fun r120 V120 p120 => ?_)
      obtain ⟨rfl, rfl⟩ := And.intro p120.1.symm p120.2
      refine k_rwQ (sFn_at hk.le zl) ?_
      refine k_astore_n 123 124 C [(3, _), (2, _), (0, _), (1, _)] dX0_takeFrom_123 rfl (by decide) rfl ?_
      refine k_aload_n 124 125 C dX0_takeFrom_124 rfl 3 rfl ?_
      refine k_iload_n 125 126 C dX0_takeFrom_125 rfl 1 rfl ?_
      refine k_callVQ 126 129 C [_] [] dX0_takeFrom_126 rfl (ct_X0_find h2 kr) mi_X0_find ml_X0_60 im_X0_find se_X0_find ci_X0 (IsDsk.o h2) rfl rfl ⟨Nat.le_of_ble_eq_true rfl, Nat.le_of_ble_eq_true rfl⟩ (Nat.le_of_ble_eq_true rfl) (Nat.zero_le _) (Nat.zero_le _) (fun r126 V126 p126 => ?_)
      obtain ⟨rfl, rfl⟩ := And.intro p126.1.symm p126.2
      refine k_rwQ (sFind_at hk.le zl) ?_
      refine k_astore 129 131 C [(4, _), (3, _), (2, _), (0, _), (1, _)] dX0_takeFrom_129 rfl (by decide) rfl ?_
      refine k_aload_n 131 132 C dX0_takeFrom_131 rfl 1 rfl ?_
      refine k_ifnullO 132 135 C dX0_takeFrom_132 rfl ?_
      refine k_aload 135 137 C dX0_takeFrom_135 rfl 0 rfl ?_
      refine k_ifnullO 137 140 C dX0_takeFrom_137 rfl ?_
      refine k_aload_n 140 141 C dX0_takeFrom_140 rfl 1 rfl ?_
      refine k_aload 141 143 C dX0_takeFrom_141 rfl 0 rfl ?_
      refine k_callVV 143 146 C [_] [] dX0_takeFrom_143 rfl (ct_X1_takeFrom (hD.d _ (hr.1 i (by omega)).1) (h2.d _ (hk.p i (by omega))) (kr.d i zl) (kr.w i zl) (by have := (hr.1 i (by omega)).1; have := hk.p i (by omega); omega)) mi_X1_takeFrom ml_X0_64 im_X1_takeFrom se_X1_takeFrom ci_X1 (IsDrw.o (hD.d _ (hr.1 i (by omega)).1)) rfl rfl ⟨Nat.le_of_ble_eq_true rfl, Nat.le_of_ble_eq_true rfl⟩ (Nat.le_of_ble_eq_true rfl) (Nat.zero_le _) (Nat.zero_le _) (fun V143 p143 => ?_)
      refine k_iinc 146 149 C [(2, _), (4, _), (3, _), (0, _), (1, _)] (nI (i + 1)) dX0_takeFrom_146 rfl 2 rfl (nI_1 i) (by decide) rfl ?_
      refine k_goto 149 110 C dX0_takeFrom_149 (by decide) ?_
      refine k_perm [0, 3, 4] (L' := [(2, _), (0, _), (1, _)]) rfl ?_
      exact ih (kn S - (i + 1)) (by omega) V143 (i + 1) rfl (by omega) (g3.step (by omega) p143.2 p143.1 (kr.w i zl)) (g4.trans (p143.2.wide (by omega) (by have := (hr.1 i (by omega)).1; omega)))
  have loop34 : ∀ (f : Nat) (V1 : gV) (i : Nat), 5 - i = f → (i ≤ 5) → (TF V1 D S π i) → (Off V V1 D (D + 27)) → KW E T V1 p l e { frames := 3, cells := 0, slots := 0, locals := 64 } s m args below meth c 5 0 0 (MQ below (va_Qv (fun (V' : gV) => DK V' D S π ∧ Off V V' D (D + 27)) (RepS E T) (gA E)) args s 0 0 (gA E)) 34 [(2, .int (nI i)), (0, .ref D), (1, .ref D2)] [] := by
    intro f
    induction f using Nat.strongRecOn with
    | _ f ih =>
    intro V1 i hf hi g1 g2
    have kq := hk.off g2 (by omega)
    refine k_iload_n 34 35 C dX0_takeFrom_34 rfl 0 rfl ?_
    refine k_aload_n 35 36 C dX0_takeFrom_35 rfl 1 rfl ?_
    refine k_getF 36 39 C dX0_takeFrom_36 rfl ci_X0 4 fl_X0_28 (IsDsk.o hD) (by decide) (IsDsk.f4 hD) rfl ?_
    refine k_alen 39 40 C dX0_takeFrom_39 rfl (IsDsk.a4 ‹_›) (by decide) (v := 5) rfl ?_
    refine k_icmp_ge 40 60 43 C dX0_takeFrom_40 (by decide) rfl (fun h40 => ?_) (fun h40 => ?_)
    · have z40 : nI 5 ≤ nI i := h40
      rw [n6 (by omega) (by omega)] at z40
      obtain rfl : i = 5 := by omega
      refine k_aload_n 60 61 C dX0_takeFrom_60 rfl 1 rfl ?_
      refine k_aload_n 61 62 C dX0_takeFrom_61 rfl 2 rfl ?_
      refine k_get 62 65 C dX0_takeFrom_62 rfl ci_X0 5 fl_X0_31 (IsDsk.o h2) (by decide) rfl ?_
      refine k_rwI (kq.f 5 (by decide) (by decide)) ?_
      refine k_put 65 68 C dX0_takeFrom_65 rfl ci_X0 5 fl_X0_31 (IsDsk.o hD) (by decide) rfl rfl rfl wI_off (ps_0_5 _ _ _ _) ?_
      have o5_ := g2.wI (a := D) (k := 5) (x := kf S 5) (Nat.le_refl D) (by omega)
      have k5_ := hk.off o5_ (by omega)
      refine k_aload_n 68 69 C dX0_takeFrom_68 rfl 1 rfl ?_
      refine k_aload_n 69 70 C dX0_takeFrom_69 rfl 2 rfl ?_
      refine k_get 70 73 C dX0_takeFrom_70 rfl ci_X0 6 fl_X0_34 (IsDsk.o h2) (by decide) rfl ?_
      refine k_rwI (k5_.f 6 (by decide) (by decide)) ?_
      refine k_put 73 76 C dX0_takeFrom_73 rfl ci_X0 6 fl_X0_34 (IsDsk.o hD) (by decide) rfl rfl rfl wI_off (ps_0_6 _ _ _ _) ?_
      have o6_ := o5_.wI (a := D) (k := 6) (x := kf S 6) (Nat.le_refl D) (by omega)
      have k6_ := hk.off o6_ (by omega)
      refine k_aload_n 76 77 C dX0_takeFrom_76 rfl 1 rfl ?_
      refine k_aload_n 77 78 C dX0_takeFrom_77 rfl 2 rfl ?_
      refine k_get 78 81 C dX0_takeFrom_78 rfl ci_X0 7 fl_X0_37 (IsDsk.o h2) (by decide) rfl ?_
      refine k_rwI (k6_.f 7 (by decide) (by decide)) ?_
      refine k_put 81 84 C dX0_takeFrom_81 rfl ci_X0 7 fl_X0_37 (IsDsk.o hD) (by decide) rfl rfl rfl wI_off (ps_0_7 _ _ _ _) ?_
      have o7_ := o6_.wI (a := D) (k := 7) (x := kf S 7) (Nat.le_refl D) (by omega)
      have k7_ := hk.off o7_ (by omega)
      refine k_aload_n 84 85 C dX0_takeFrom_84 rfl 1 rfl ?_
      refine k_aload_n 85 86 C dX0_takeFrom_85 rfl 2 rfl ?_
      refine k_get 86 89 C dX0_takeFrom_86 rfl ci_X0 8 fl_X0_40 (IsDsk.o h2) (by decide) rfl ?_
      refine k_rwI (k7_.f 8 (by decide) (by decide)) ?_
      refine k_put 89 92 C dX0_takeFrom_89 rfl ci_X0 8 fl_X0_40 (IsDsk.o hD) (by decide) rfl rfl rfl wI_off (ps_0_8 _ _ _ _) ?_
      have o8_ := o7_.wI (a := D) (k := 8) (x := kf S 8) (Nat.le_refl D) (by omega)
      have k8_ := hk.off o8_ (by omega)
      refine k_aload_n 92 93 C dX0_takeFrom_92 rfl 1 rfl ?_
      refine k_aload_n 93 94 C dX0_takeFrom_93 rfl 2 rfl ?_
      refine k_get 94 97 C dX0_takeFrom_94 rfl ci_X0 9 fl_X0_43 (IsDsk.o h2) (by decide) rfl ?_
      refine k_rwI (k8_.f 9 (by decide) (by decide)) ?_
      refine k_put 97 100 C dX0_takeFrom_97 rfl ci_X0 9 fl_X0_43 (IsDsk.o hD) (by decide) rfl rfl rfl wI_off (ps_0_9 _ _ _ _) ?_
      have o9_ := o8_.wI (a := D) (k := 9) (x := kf S 9) (Nat.le_refl D) (by omega)
      have k9_ := hk.off o9_ (by omega)
      refine k_aload_n 100 101 C dX0_takeFrom_100 rfl 1 rfl ?_
      refine k_aload_n 101 102 C dX0_takeFrom_101 rfl 2 rfl ?_
      refine k_get 102 105 C dX0_takeFrom_102 rfl ci_X0 11 fl_X0_52 (IsDsk.o h2) (by decide) rfl ?_
      refine k_rwI (k9_.n) ?_
      refine k_put 105 108 C dX0_takeFrom_105 rfl ci_X0 11 fl_X0_52 (IsDsk.o hD) (by decide) rfl rfl rfl wI_off (ps_0_11 _ _ _ _) ?_
      have zo := o9_.wI (a := D) (k := 11) (x := nI (kn S)) (Nat.le_refl D) (by omega)
      have zf := g1.fin hk.le
      refine k_iconst 108 109 C dX0_takeFrom_108 rfl (v := 0) rfl ?_
      refine k_istore_n 109 110 C [(2, _), (0, _), (1, _)] dX0_takeFrom_109 rfl (by decide) rfl ?_
      exact loop110 _ _ 0 rfl (Nat.zero_le _) zf zo
    · have z40 : ¬ nI 5 ≤ nI i := h40
      rw [n6 (by omega) (by omega)] at z40
      refine k_aload_n 43 44 C dX0_takeFrom_43 rfl 1 rfl ?_
      refine k_getF 44 47 C dX0_takeFrom_44 rfl ci_X0 4 fl_X0_28 (IsDsk.o hD) (by decide) (IsDsk.f4 hD) rfl ?_
      refine k_iload_n 47 48 C dX0_takeFrom_47 rfl 0 rfl ?_
      refine k_aload_n 48 49 C dX0_takeFrom_48 rfl 2 rfl ?_
      refine k_iload_n 49 50 C dX0_takeFrom_49 rfl 0 rfl ?_
      refine k_callVI 50 53 C [_] [_, _] dX0_takeFrom_50 rfl (ct_X0_setting h2 kq) mi_X0_setting ml_X0_56 im_X0_setting se_X0_setting ci_X0 (IsDsk.o h2) rfl rfl ⟨Nat.le_of_ble_eq_true rfl, Nat.le_of_ble_eq_true rfl⟩ (Nat.le_of_ble_eq_true rfl) (Nat.zero_le _) (Nat.zero_le _) (fun r50 V50 p50 => ?_)
      obtain ⟨rfl, rfl⟩ := And.intro p50.1.symm p50.2
      refine k_rwI (y := ks S i) (by unfold sSet; rw [if_pos ⟨nI_pos (by omega), h40⟩, nI_clamp (by omega)]) ?_
      refine k_iast 53 54 C dX0_takeFrom_53 rfl (IsDsk.a4 hD) (vp_in_nI (show i < 5 by omega) (by decide)) ?_
      rw [nI_clamp (show i < 2 ^ 31 by omega)]
      refine k_iinc 54 57 C [(2, _), (0, _), (1, _)] (nI (i + 1)) dX0_takeFrom_54 rfl 0 rfl (nI_1 i) (by decide) rfl ?_
      refine k_goto 57 34 C dX0_takeFrom_57 (by decide) ?_
      exact ih (5 - (i + 1)) (by omega) _ (i + 1) rfl (by omega) g1.step (g2.wI (by omega) (by omega))
  refine k_aload_n 0 1 C dX0_takeFrom_0 rfl 0 rfl ?_
  refine k_aload_n 1 2 C dX0_takeFrom_1 rfl 1 rfl ?_
  refine k_get 2 5 C dX0_takeFrom_2 rfl ci_X0 0 fl_X0_9 (IsDsk.o h2) (by decide) rfl ?_
  refine k_rwI (hk.f 0 (by decide) (by decide)) ?_
  refine k_put 5 8 C dX0_takeFrom_5 rfl ci_X0 0 fl_X0_9 (IsDsk.o hD) (by decide) rfl rfl rfl wI_off (ps_0_0 _ _ _ _) ?_
  have o1_ := (Off.rf (V := V) (lo := D) (hi := D + 27)).wI (a := D) (k := 0) (x := kf S 0) (Nat.le_refl D) (by omega)
  have k1_ := hk.off o1_ (by omega)
  refine k_aload_n 8 9 C dX0_takeFrom_8 rfl 0 rfl ?_
  refine k_aload_n 9 10 C dX0_takeFrom_9 rfl 1 rfl ?_
  refine k_get 10 13 C dX0_takeFrom_10 rfl ci_X0 1 fl_X0_15 (IsDsk.o h2) (by decide) rfl ?_
  refine k_rwI (k1_.f 1 (by decide) (by decide)) ?_
  refine k_put 13 16 C dX0_takeFrom_13 rfl ci_X0 1 fl_X0_15 (IsDsk.o hD) (by decide) rfl rfl rfl wI_off (ps_0_1 _ _ _ _) ?_
  have o2_ := o1_.wI (a := D) (k := 1) (x := kf S 1) (Nat.le_refl D) (by omega)
  have k2_ := hk.off o2_ (by omega)
  refine k_aload_n 16 17 C dX0_takeFrom_16 rfl 0 rfl ?_
  refine k_aload_n 17 18 C dX0_takeFrom_17 rfl 1 rfl ?_
  refine k_get 18 21 C dX0_takeFrom_18 rfl ci_X0 2 fl_X0_18 (IsDsk.o h2) (by decide) rfl ?_
  refine k_rwI (k2_.f 2 (by decide) (by decide)) ?_
  refine k_put 21 24 C dX0_takeFrom_21 rfl ci_X0 2 fl_X0_18 (IsDsk.o hD) (by decide) rfl rfl rfl wI_off (ps_0_2 _ _ _ _) ?_
  have o3_ := o2_.wI (a := D) (k := 2) (x := kf S 2) (Nat.le_refl D) (by omega)
  have k3_ := hk.off o3_ (by omega)
  refine k_aload_n 24 25 C dX0_takeFrom_24 rfl 0 rfl ?_
  refine k_aload_n 25 26 C dX0_takeFrom_25 rfl 1 rfl ?_
  refine k_get 26 29 C dX0_takeFrom_26 rfl ci_X0 3 fl_X0_21 (IsDsk.o h2) (by decide) rfl ?_
  refine k_rwI (k3_.f 3 (by decide) (by decide)) ?_
  refine k_put 29 32 C dX0_takeFrom_29 rfl ci_X0 3 fl_X0_21 (IsDsk.o hD) (by decide) rfl rfl rfl wI_off (ps_0_3 _ _ _ _) ?_
  have o4_ := o3_.wI (a := D) (k := 3) (x := kf S 3) (Nat.le_refl D) (by omega)
  have k4_ := hk.off o4_ (by omega)
  refine k_iconst 32 33 C dX0_takeFrom_32 rfl (v := 0) rfl ?_
  refine k_istore_n 33 34 C [(2, _), (0, _), (1, _)] dX0_takeFrom_33 rfl (by decide) rfl ?_
  refine loop34 _ _ 0 rfl (Nat.zero_le _) ?_ o4_
  exact ⟨by simp [wI, upd], by simp [wI, upd], by simp [wI, upd], by simp [wI, upd], fun j hj => absurd hj (Nat.not_lt_zero j), hr⟩
end
