section
-- ===== PART A: goes FIRST, ahead of the names: the tables' words, and 'selects' of the private methods out of them =====
/-- a private method of a class that the tables say can be made, by its rows of tables_1 -/
def lw_okq (q : MethodName × Nat) : Prop := (q.1.cls ≠ "java/lang/invoke/MethodHandle" ∧ q.1.cls ≠ "java/lang/invoke/VarHandle") ∧ Cond.instantiable q.1.cls q.2 ∈ tables_1 ∧ Cond.privateMethod q.1 ∈ tables_1 ∧ Cond.instanceMethod q.1 ∈ tables_1
theorem lw_p0 : lw_okq (⟨"PantographArm", "remember", "()V"⟩, 4) := ⟨⟨by decide +kernel, by decide +kernel⟩, List.mem_of_getElem? (i := 9) (by decide +kernel), List.mem_of_getElem? (i := 190) (by decide +kernel), List.mem_of_getElem? (i := 191) (by decide +kernel)⟩
theorem lw_p1 : lw_okq (⟨"PantographArm", "dropOldest", "()V"⟩, 4) := ⟨⟨by decide +kernel, by decide +kernel⟩, List.mem_of_getElem? (i := 9) (by decide +kernel), List.mem_of_getElem? (i := 194) (by decide +kernel), List.mem_of_getElem? (i := 195) (by decide +kernel)⟩
theorem lw_p2 : lw_okq (⟨"PantographArm$PointText", "parsePoint", "(Z)V"⟩, 9) := ⟨⟨by decide +kernel, by decide +kernel⟩, List.mem_of_getElem? (i := 130) (by decide +kernel), List.mem_of_getElem? (i := 503) (by decide +kernel), List.mem_of_getElem? (i := 504) (by decide +kernel)⟩
theorem lw_p3 : lw_okq (⟨"PantographArm$PointText", "here", "()C"⟩, 9) := ⟨⟨by decide +kernel, by decide +kernel⟩, List.mem_of_getElem? (i := 130) (by decide +kernel), List.mem_of_getElem? (i := 507) (by decide +kernel), List.mem_of_getElem? (i := 508) (by decide +kernel)⟩
theorem lw_p4 : lw_okq (⟨"PantographArm$PointText", "fail", "(II)V"⟩, 9) := ⟨⟨by decide +kernel, by decide +kernel⟩, List.mem_of_getElem? (i := 130) (by decide +kernel), List.mem_of_getElem? (i := 514) (by decide +kernel), List.mem_of_getElem? (i := 515) (by decide +kernel)⟩
theorem lw_p5 : lw_okq (⟨"PantographArm$PointText", "parseNumber", "()I"⟩, 9) := ⟨⟨by decide +kernel, by decide +kernel⟩, List.mem_of_getElem? (i := 130) (by decide +kernel), List.mem_of_getElem? (i := 518) (by decide +kernel), List.mem_of_getElem? (i := 519) (by decide +kernel)⟩
theorem lw_p6 : lw_okq (⟨"PantographArm$PointText", "failHere", "()V"⟩, 9) := ⟨⟨by decide +kernel, by decide +kernel⟩, List.mem_of_getElem? (i := 130) (by decide +kernel), List.mem_of_getElem? (i := 522) (by decide +kernel), List.mem_of_getElem? (i := 523) (by decide +kernel)⟩
theorem lw_p7 : lw_okq (⟨"PantographArm$PointText", "expect", "(C)V"⟩, 9) := ⟨⟨by decide +kernel, by decide +kernel⟩, List.mem_of_getElem? (i := 130) (by decide +kernel), List.mem_of_getElem? (i := 526) (by decide +kernel), List.mem_of_getElem? (i := 527) (by decide +kernel)⟩
theorem lw_p8 : lw_okq (⟨"PantographArm$PointText", "accept", "(C)Z"⟩, 9) := ⟨⟨by decide +kernel, by decide +kernel⟩, List.mem_of_getElem? (i := 130) (by decide +kernel), List.mem_of_getElem? (i := 530) (by decide +kernel), List.mem_of_getElem? (i := 531) (by decide +kernel)⟩
theorem lw_p9 : lw_okq (⟨"PantographArmModel", "keep", "()V"⟩, 12) := ⟨⟨by decide +kernel, by decide +kernel⟩, List.mem_of_getElem? (i := 543) (by decide +kernel), List.mem_of_getElem? (i := 596) (by decide +kernel), List.mem_of_getElem? (i := 597) (by decide +kernel)⟩
theorem lw_p10 : lw_okq (⟨"PantographArmModel", "of", "(I)I"⟩, 12) := ⟨⟨by decide +kernel, by decide +kernel⟩, List.mem_of_getElem? (i := 543) (by decide +kernel), List.mem_of_getElem? (i := 603) (by decide +kernel), List.mem_of_getElem? (i := 604) (by decide +kernel)⟩
theorem lw_p11 : lw_okq (⟨"PantographArmModel", "isBlunt", "()Z"⟩, 12) := ⟨⟨by decide +kernel, by decide +kernel⟩, List.mem_of_getElem? (i := 543) (by decide +kernel), List.mem_of_getElem? (i := 622) (by decide +kernel), List.mem_of_getElem? (i := 623) (by decide +kernel)⟩
theorem lw_p12 : lw_okq (⟨"PantographArmModel", "begins", "()I"⟩, 12) := ⟨⟨by decide +kernel, by decide +kernel⟩, List.mem_of_getElem? (i := 543) (by decide +kernel), List.mem_of_getElem? (i := 638) (by decide +kernel), List.mem_of_getElem? (i := 639) (by decide +kernel)⟩
theorem lw_p13 : lw_okq (⟨"PantographArmModel", "isDrawing", "(I)Z"⟩, 12) := ⟨⟨by decide +kernel, by decide +kernel⟩, List.mem_of_getElem? (i := 543) (by decide +kernel), List.mem_of_getElem? (i := 650) (by decide +kernel), List.mem_of_getElem? (i := 651) (by decide +kernel)⟩
theorem lw_p14 : lw_okq (⟨"PantographArmModel", "isCopied", "(I)Z"⟩, 12) := ⟨⟨by decide +kernel, by decide +kernel⟩, List.mem_of_getElem? (i := 543) (by decide +kernel), List.mem_of_getElem? (i := 654) (by decide +kernel), List.mem_of_getElem? (i := 655) (by decide +kernel)⟩
theorem lw_p15 : lw_okq (⟨"PantographArmModel", "points", "(I)I"⟩, 12) := ⟨⟨by decide +kernel, by decide +kernel⟩, List.mem_of_getElem? (i := 543) (by decide +kernel), List.mem_of_getElem? (i := 659) (by decide +kernel), List.mem_of_getElem? (i := 660) (by decide +kernel)⟩
def lw_privs_1 : List (MethodName × Nat) := [(⟨"PantographArm", "remember", "()V"⟩, 4), (⟨"PantographArm", "dropOldest", "()V"⟩, 4), (⟨"PantographArm$PointText", "parsePoint", "(Z)V"⟩, 9), (⟨"PantographArm$PointText", "here", "()C"⟩, 9), (⟨"PantographArm$PointText", "fail", "(II)V"⟩, 9), (⟨"PantographArm$PointText", "parseNumber", "()I"⟩, 9), (⟨"PantographArm$PointText", "failHere", "()V"⟩, 9), (⟨"PantographArm$PointText", "expect", "(C)V"⟩, 9), (⟨"PantographArm$PointText", "accept", "(C)Z"⟩, 9), (⟨"PantographArmModel", "keep", "()V"⟩, 12), (⟨"PantographArmModel", "of", "(I)I"⟩, 12), (⟨"PantographArmModel", "isBlunt", "()Z"⟩, 12), (⟨"PantographArmModel", "begins", "()I"⟩, 12), (⟨"PantographArmModel", "isDrawing", "(I)Z"⟩, 12), (⟨"PantographArmModel", "isCopied", "(I)Z"⟩, 12), (⟨"PantographArmModel", "points", "(I)I"⟩, 12)]
theorem lw_r1 : ∀ q ∈ lw_privs_1, lw_okq q := List.forall_mem_cons.mpr ⟨lw_p0, List.forall_mem_cons.mpr ⟨lw_p1, List.forall_mem_cons.mpr ⟨lw_p2, List.forall_mem_cons.mpr ⟨lw_p3, List.forall_mem_cons.mpr ⟨lw_p4, List.forall_mem_cons.mpr ⟨lw_p5, List.forall_mem_cons.mpr ⟨lw_p6, List.forall_mem_cons.mpr ⟨lw_p7, List.forall_mem_cons.mpr ⟨lw_p8, List.forall_mem_cons.mpr ⟨lw_p9, List.forall_mem_cons.mpr ⟨lw_p10, List.forall_mem_cons.mpr ⟨lw_p11, List.forall_mem_cons.mpr ⟨lw_p12, List.forall_mem_cons.mpr ⟨lw_p13, List.forall_mem_cons.mpr ⟨lw_p14, List.forall_mem_cons.mpr ⟨lw_p15, fun _ h => absurd h List.not_mem_nil⟩⟩⟩⟩⟩⟩⟩⟩⟩⟩⟩⟩⟩⟩⟩⟩
theorem lw_p16 : lw_okq (⟨"PantographArmModel", "adds", "(IIII)V"⟩, 12) := ⟨⟨by decide +kernel, by decide +kernel⟩, List.mem_of_getElem? (i := 543) (by decide +kernel), List.mem_of_getElem? (i := 663) (by decide +kernel), List.mem_of_getElem? (i := 664) (by decide +kernel)⟩
theorem lw_p17 : lw_okq (⟨"PantographArmModel", "lengthTo", "(II)I"⟩, 12) := ⟨⟨by decide +kernel, by decide +kernel⟩, List.mem_of_getElem? (i := 543) (by decide +kernel), List.mem_of_getElem? (i := 670) (by decide +kernel), List.mem_of_getElem? (i := 671) (by decide +kernel)⟩
theorem lw_p18 : lw_okq (⟨"PantographArmModel", "plus", "(JJJJJ)V"⟩, 12) := ⟨⟨by decide +kernel, by decide +kernel⟩, List.mem_of_getElem? (i := 543) (by decide +kernel), List.mem_of_getElem? (i := 674) (by decide +kernel), List.mem_of_getElem? (i := 675) (by decide +kernel)⟩
theorem lw_p19 : lw_okq (⟨"PantographArmModel", "reduce", "(JJ)V"⟩, 12) := ⟨⟨by decide +kernel, by decide +kernel⟩, List.mem_of_getElem? (i := 543) (by decide +kernel), List.mem_of_getElem? (i := 684) (by decide +kernel), List.mem_of_getElem? (i := 685) (by decide +kernel)⟩
theorem lw_p20 : lw_okq (⟨"PantographArmModel", "reason", "(I)I"⟩, 12) := ⟨⟨by decide +kernel, by decide +kernel⟩, List.mem_of_getElem? (i := 543) (by decide +kernel), List.mem_of_getElem? (i := 696) (by decide +kernel), List.mem_of_getElem? (i := 697) (by decide +kernel)⟩
theorem lw_p21 : lw_okq (⟨"PantographArmModel", "copies", "(I)Z"⟩, 12) := ⟨⟨by decide +kernel, by decide +kernel⟩, List.mem_of_getElem? (i := 543) (by decide +kernel), List.mem_of_getElem? (i := 700) (by decide +kernel), List.mem_of_getElem? (i := 701) (by decide +kernel)⟩
theorem lw_p22 : lw_okq (⟨"PantographArmModel", "put", "(I)V"⟩, 12) := ⟨⟨by decide +kernel, by decide +kernel⟩, List.mem_of_getElem? (i := 543) (by decide +kernel), List.mem_of_getElem? (i := 704) (by decide +kernel), List.mem_of_getElem? (i := 705) (by decide +kernel)⟩
theorem lw_p23 : lw_okq (⟨"PantographArmModel", "signOf", "(I)I"⟩, 12) := ⟨⟨by decide +kernel, by decide +kernel⟩, List.mem_of_getElem? (i := 543) (by decide +kernel), List.mem_of_getElem? (i := 709) (by decide +kernel), List.mem_of_getElem? (i := 710) (by decide +kernel)⟩
theorem lw_p24 : lw_okq (⟨"PantographArmModel", "shift", "(III)V"⟩, 12) := ⟨⟨by decide +kernel, by decide +kernel⟩, List.mem_of_getElem? (i := 543) (by decide +kernel), List.mem_of_getElem? (i := 714) (by decide +kernel), List.mem_of_getElem? (i := 715) (by decide +kernel)⟩
theorem lw_p25 : lw_okq (⟨"PantographArmModel", "aim", "(IJJ)V"⟩, 12) := ⟨⟨by decide +kernel, by decide +kernel⟩, List.mem_of_getElem? (i := 543) (by decide +kernel), List.mem_of_getElem? (i := 718) (by decide +kernel), List.mem_of_getElem? (i := 719) (by decide +kernel)⟩
theorem lw_p26 : lw_okq (⟨"PantographArmModel", "trace", "(III)V"⟩, 12) := ⟨⟨by decide +kernel, by decide +kernel⟩, List.mem_of_getElem? (i := 543) (by decide +kernel), List.mem_of_getElem? (i := 722) (by decide +kernel), List.mem_of_getElem? (i := 723) (by decide +kernel)⟩
theorem lw_p27 : lw_okq (⟨"PantographArmModel", "follow", "(JJ)V"⟩, 12) := ⟨⟨by decide +kernel, by decide +kernel⟩, List.mem_of_getElem? (i := 543) (by decide +kernel), List.mem_of_getElem? (i := 726) (by decide +kernel), List.mem_of_getElem? (i := 727) (by decide +kernel)⟩
theorem lw_p28 : lw_okq (⟨"PantographArmModel", "line", "(II)V"⟩, 12) := ⟨⟨by decide +kernel, by decide +kernel⟩, List.mem_of_getElem? (i := 543) (by decide +kernel), List.mem_of_getElem? (i := 734) (by decide +kernel), List.mem_of_getElem? (i := 735) (by decide +kernel)⟩
theorem lw_p29 : lw_okq (⟨"PantographArmModel", "isOnBoard", "(II)Z"⟩, 12) := ⟨⟨by decide +kernel, by decide +kernel⟩, List.mem_of_getElem? (i := 543) (by decide +kernel), List.mem_of_getElem? (i := 738) (by decide +kernel), List.mem_of_getElem? (i := 739) (by decide +kernel)⟩
theorem lw_p30 : lw_okq (⟨"PantographArmModel", "drawingOf", "(II)I"⟩, 12) := ⟨⟨by decide +kernel, by decide +kernel⟩, List.mem_of_getElem? (i := 543) (by decide +kernel), List.mem_of_getElem? (i := 746) (by decide +kernel), List.mem_of_getElem? (i := 747) (by decide +kernel)⟩
theorem lw_p31 : lw_okq (⟨"PantographArmModel", "root", "(I)I"⟩, 12) := ⟨⟨by decide +kernel, by decide +kernel⟩, List.mem_of_getElem? (i := 543) (by decide +kernel), List.mem_of_getElem? (i := 751) (by decide +kernel), List.mem_of_getElem? (i := 752) (by decide +kernel)⟩
def lw_privs_2 : List (MethodName × Nat) := [(⟨"PantographArmModel", "adds", "(IIII)V"⟩, 12), (⟨"PantographArmModel", "lengthTo", "(II)I"⟩, 12), (⟨"PantographArmModel", "plus", "(JJJJJ)V"⟩, 12), (⟨"PantographArmModel", "reduce", "(JJ)V"⟩, 12), (⟨"PantographArmModel", "reason", "(I)I"⟩, 12), (⟨"PantographArmModel", "copies", "(I)Z"⟩, 12), (⟨"PantographArmModel", "put", "(I)V"⟩, 12), (⟨"PantographArmModel", "signOf", "(I)I"⟩, 12), (⟨"PantographArmModel", "shift", "(III)V"⟩, 12), (⟨"PantographArmModel", "aim", "(IJJ)V"⟩, 12), (⟨"PantographArmModel", "trace", "(III)V"⟩, 12), (⟨"PantographArmModel", "follow", "(JJ)V"⟩, 12), (⟨"PantographArmModel", "line", "(II)V"⟩, 12), (⟨"PantographArmModel", "isOnBoard", "(II)Z"⟩, 12), (⟨"PantographArmModel", "drawingOf", "(II)I"⟩, 12), (⟨"PantographArmModel", "root", "(I)I"⟩, 12)]
theorem lw_r2 : ∀ q ∈ lw_privs_2, lw_okq q := List.forall_mem_cons.mpr ⟨lw_p16, List.forall_mem_cons.mpr ⟨lw_p17, List.forall_mem_cons.mpr ⟨lw_p18, List.forall_mem_cons.mpr ⟨lw_p19, List.forall_mem_cons.mpr ⟨lw_p20, List.forall_mem_cons.mpr ⟨lw_p21, List.forall_mem_cons.mpr ⟨lw_p22, List.forall_mem_cons.mpr ⟨lw_p23, List.forall_mem_cons.mpr ⟨lw_p24, List.forall_mem_cons.mpr ⟨lw_p25, List.forall_mem_cons.mpr ⟨lw_p26, List.forall_mem_cons.mpr ⟨lw_p27, List.forall_mem_cons.mpr ⟨lw_p28, List.forall_mem_cons.mpr ⟨lw_p29, List.forall_mem_cons.mpr ⟨lw_p30, List.forall_mem_cons.mpr ⟨lw_p31, fun _ h => absurd h List.not_mem_nil⟩⟩⟩⟩⟩⟩⟩⟩⟩⟩⟩⟩⟩⟩⟩⟩
theorem lw_p32 : lw_okq (⟨"PantographArmModel", "steps", "(I)I"⟩, 12) := ⟨⟨by decide +kernel, by decide +kernel⟩, List.mem_of_getElem? (i := 543) (by decide +kernel), List.mem_of_getElem? (i := 755) (by decide +kernel), List.mem_of_getElem? (i := 756) (by decide +kernel)⟩
theorem lw_p33 : lw_okq (⟨"PantographArmModel", "offBoard", "(I)I"⟩, 12) := ⟨⟨by decide +kernel, by decide +kernel⟩, List.mem_of_getElem? (i := 543) (by decide +kernel), List.mem_of_getElem? (i := 759) (by decide +kernel), List.mem_of_getElem? (i := 760) (by decide +kernel)⟩
theorem lw_p34 : lw_okq (⟨"PantographArmModel", "ratioOf", "(I)F"⟩, 12) := ⟨⟨by decide +kernel, by decide +kernel⟩, List.mem_of_getElem? (i := 543) (by decide +kernel), List.mem_of_getElem? (i := 763) (by decide +kernel), List.mem_of_getElem? (i := 764) (by decide +kernel)⟩
theorem lw_p35 : lw_okq (⟨"PantographArmModel", "lines", "(II)I"⟩, 12) := ⟨⟨by decide +kernel, by decide +kernel⟩, List.mem_of_getElem? (i := 543) (by decide +kernel), List.mem_of_getElem? (i := 778) (by decide +kernel), List.mem_of_getElem? (i := 779) (by decide +kernel)⟩
theorem lw_p36 : lw_okq (⟨"PantographArmModel", "isPoint", "(II)Z"⟩, 12) := ⟨⟨by decide +kernel, by decide +kernel⟩, List.mem_of_getElem? (i := 543) (by decide +kernel), List.mem_of_getElem? (i := 790) (by decide +kernel), List.mem_of_getElem? (i := 791) (by decide +kernel)⟩
theorem lw_p37 : lw_okq (⟨"PantographArmModel", "readText", "()I"⟩, 12) := ⟨⟨by decide +kernel, by decide +kernel⟩, List.mem_of_getElem? (i := 543) (by decide +kernel), List.mem_of_getElem? (i := 824) (by decide +kernel), List.mem_of_getElem? (i := 825) (by decide +kernel)⟩
theorem lw_p38 : lw_okq (⟨"PantographArmModel", "readPoint", "(II)Z"⟩, 12) := ⟨⟨by decide +kernel, by decide +kernel⟩, List.mem_of_getElem? (i := 543) (by decide +kernel), List.mem_of_getElem? (i := 828) (by decide +kernel), List.mem_of_getElem? (i := 829) (by decide +kernel)⟩
theorem lw_p39 : lw_okq (⟨"PantographArmModel", "here", "()I"⟩, 12) := ⟨⟨by decide +kernel, by decide +kernel⟩, List.mem_of_getElem? (i := 543) (by decide +kernel), List.mem_of_getElem? (i := 832) (by decide +kernel), List.mem_of_getElem? (i := 833) (by decide +kernel)⟩
theorem lw_p40 : lw_okq (⟨"PantographArmModel", "readNumber", "()Z"⟩, 12) := ⟨⟨by decide +kernel, by decide +kernel⟩, List.mem_of_getElem? (i := 543) (by decide +kernel), List.mem_of_getElem? (i := 836) (by decide +kernel), List.mem_of_getElem? (i := 837) (by decide +kernel)⟩
theorem lw_p41 : lw_okq (⟨"PantographArmModel", "isFault", "()Z"⟩, 12) := ⟨⟨by decide +kernel, by decide +kernel⟩, List.mem_of_getElem? (i := 543) (by decide +kernel), List.mem_of_getElem? (i := 840) (by decide +kernel), List.mem_of_getElem? (i := 841) (by decide +kernel)⟩
def lw_privs_3 : List (MethodName × Nat) := [(⟨"PantographArmModel", "steps", "(I)I"⟩, 12), (⟨"PantographArmModel", "offBoard", "(I)I"⟩, 12), (⟨"PantographArmModel", "ratioOf", "(I)F"⟩, 12), (⟨"PantographArmModel", "lines", "(II)I"⟩, 12), (⟨"PantographArmModel", "isPoint", "(II)Z"⟩, 12), (⟨"PantographArmModel", "readText", "()I"⟩, 12), (⟨"PantographArmModel", "readPoint", "(II)Z"⟩, 12), (⟨"PantographArmModel", "here", "()I"⟩, 12), (⟨"PantographArmModel", "readNumber", "()Z"⟩, 12), (⟨"PantographArmModel", "isFault", "()Z"⟩, 12)]
theorem lw_r3 : ∀ q ∈ lw_privs_3, lw_okq q := List.forall_mem_cons.mpr ⟨lw_p32, List.forall_mem_cons.mpr ⟨lw_p33, List.forall_mem_cons.mpr ⟨lw_p34, List.forall_mem_cons.mpr ⟨lw_p35, List.forall_mem_cons.mpr ⟨lw_p36, List.forall_mem_cons.mpr ⟨lw_p37, List.forall_mem_cons.mpr ⟨lw_p38, List.forall_mem_cons.mpr ⟨lw_p39, List.forall_mem_cons.mpr ⟨lw_p40, List.forall_mem_cons.mpr ⟨lw_p41, fun _ h => absurd h List.not_mem_nil⟩⟩⟩⟩⟩⟩⟩⟩⟩⟩
def lw_privs : List (MethodName × Nat) := lw_privs_1 ++ (lw_privs_2 ++ (lw_privs_3))
def lw_tbl : List Cond := k2_sels lw_privs ++ tables_1
theorem lw_privs_ok : ∀ q ∈ lw_privs, lw_okq q := by
  show ∀ q ∈ lw_privs_1 ++ (lw_privs_2 ++ (lw_privs_3)), lw_okq q
  exact List.forall_mem_append.mpr ⟨lw_r1, List.forall_mem_append.mpr ⟨lw_r2, lw_r3⟩⟩
/-- the streams that the claim lets the run draw from -/
abbrev lw_cs : List Choice := [Jvm.Choice.named "NaN.bits"]
theorem lw_bits : nanBits ∈ lw_cs := by first | decide | exact List.mem_cons_self | simp [lw_cs, nanBits]
-- ===== end of PART A; then your names; then what follows =====
end
section
def RX0 : String := "PantographArm$Desk"
def TX0 : u_T := fun k => match k with
  | 0 => ("PantographArm$Desk", "a", "I", false)
  | 1 => ("PantographArm$Desk", "b", "I", false)
  | 2 => ("PantographArm$Desk", "pivotX", "I", false)
  | 3 => ("PantographArm$Desk", "pivotY", "I", false)
  | 4 => ("PantographArm$Desk", "settings", "[I", true)
  | 5 => ("PantographArm$Desk", "wear", "I", false)
  | 6 => ("PantographArm$Desk", "sharpenings", "I", false)
  | 7 => ("PantographArm$Desk", "drawnLines", "I", false)
  | 8 => ("PantographArm$Desk", "drawnLength", "I", false)
  | 9 => ("PantographArm$Desk", "leftOut", "I", false)
  | 10 => ("PantographArm$Desk", "drawings", "[LPantographArm$Drawing;", true)
  | _ => ("PantographArm$Desk", "size", "I", false)
def tyX0 : Nat → FieldType := fun k => match k with
  | 0 => .int
  | 1 => .int
  | 2 => .int
  | 3 => .int
  | 4 => .array .int
  | 5 => .int
  | 6 => .int
  | 7 => .int
  | 8 => .int
  | 9 => .int
  | 10 => .array (.object "PantographArm$Drawing")
  | _ => .int
abbrev wsX00 : List Cond := u_ws RX0 TX0 12
theorem nmX0 : ∀ a, a < 12 → ∀ b, b < 12 → a ≠ b → (TX0 a).2.1 ≠ (TX0 b).2.1 := by decide +kernel
theorem tyX0_ok : ∀ k, k < 12 → parseFieldDescriptor (TX0 k).2.2.1 = some (tyX0 k) := by decide +kernel
abbrev cX0_init : ByteArray := prog_2_method_1_code
def yX0_init : MethodName := ⟨RX0, "<init>", "()V"⟩
abbrev cX0_takeFrom : ByteArray := prog_2_method_2_code
def yX0_takeFrom : MethodName := ⟨RX0, "takeFrom", "(LPantographArm$Desk;)V"⟩
abbrev cX0_setting : ByteArray := prog_2_method_3_code
def yX0_setting : MethodName := ⟨RX0, "setting", "(I)I"⟩
abbrev cX0_changeSetting : ByteArray := prog_2_method_4_code
def yX0_changeSetting : MethodName := ⟨RX0, "changeSetting", "(II)V"⟩
abbrev cX0_signX : ByteArray := prog_2_method_5_code
def yX0_signX : MethodName := ⟨RX0, "signX", "()I"⟩
abbrev cX0_signY : ByteArray := prog_2_method_6_code
def yX0_signY : MethodName := ⟨RX0, "signY", "()I"⟩
abbrev cX0_find : ByteArray := prog_2_method_7_code
def yX0_find : MethodName := ⟨RX0, "find", "(I)LPantographArm$Drawing;"⟩
abbrev cX0_spare : ByteArray := prog_2_method_8_code
def yX0_spare : MethodName := ⟨RX0, "spare", "()LPantographArm$Drawing;"⟩
abbrev cX0_beginOriginal : ByteArray := prog_2_method_9_code
def yX0_beginOriginal : MethodName := ⟨RX0, "beginOriginal", "()I"⟩
abbrev cX0_hasCopies : ByteArray := prog_2_method_10_code
def yX0_hasCopies : MethodName := ⟨RX0, "hasCopies", "(I)Z"⟩
abbrev cX0_takeAway : ByteArray := prog_2_method_11_code
def yX0_takeAway : MethodName := ⟨RX0, "takeAway", "(I)V"⟩
abbrev cX0_originalOf : ByteArray := prog_2_method_12_code
def yX0_originalOf : MethodName := ⟨RX0, "originalOf", "(I)I"⟩
abbrev cX0_stepsOf : ByteArray := prog_2_method_13_code
def yX0_stepsOf : MethodName := ⟨RX0, "stepsOf", "(I)I"⟩
abbrev cX0_isOnBoard : ByteArray := prog_2_method_14_code
def yX0_isOnBoard : MethodName := ⟨RX0, "isOnBoard", "(LPantographArm$Drawing;I)Z"⟩
abbrev cX0_pointsOffBoard : ByteArray := prog_2_method_15_code
def yX0_pointsOffBoard : MethodName := ⟨RX0, "pointsOffBoard", "(LPantographArm$Drawing;)I"⟩
abbrev cX0_wornWidth : ByteArray := prog_2_method_16_code
def yX0_wornWidth : MethodName := ⟨RX0, "wornWidth", "()I"⟩
abbrev cX0_isBlunt : ByteArray := prog_2_method_17_code
def yX0_isBlunt : MethodName := ⟨RX0, "isBlunt", "()Z"⟩
abbrev cX0_drawLine : ByteArray := prog_2_method_18_code
def yX0_drawLine : MethodName := ⟨RX0, "drawLine", "(LPantographArm$Drawing;I)V"⟩
abbrev cX0_reasonAgainst : ByteArray := prog_2_method_19_code
def yX0_reasonAgainst : MethodName := ⟨RX0, "reasonAgainst", "(ILPantographArm$Drawing;)I"⟩
abbrev cX0_trace : ByteArray := prog_2_method_20_code
def yX0_trace : MethodName := ⟨RX0, "trace", "(ILPantographArm$Drawing;LPantographArm$Drawing;)V"⟩
abbrev cX0_aim : ByteArray := prog_2_method_21_code
def yX0_aim : MethodName := ⟨RX0, "aim", "(JJII)J"⟩
abbrev cX0_follow : ByteArray := prog_2_method_22_code
def yX0_follow : MethodName := ⟨RX0, "follow", "(JJJ)J"⟩
abbrev cX0_keepTraced : ByteArray := prog_2_method_23_code
def yX0_keepTraced : MethodName := ⟨RX0, "keepTraced", "()I"⟩
def RX1 : String := "PantographArm$Drawing"
def TX1 : u_T := fun k => match k with
  | 0 => ("PantographArm$Drawing", "parent", "I", false)
  | 1 => ("PantographArm$Drawing", "scale", "J", false)
  | 2 => ("PantographArm$Drawing", "parts", "J", false)
  | 3 => ("PantographArm$Drawing", "signX", "I", false)
  | 4 => ("PantographArm$Drawing", "signY", "I", false)
  | 5 => ("PantographArm$Drawing", "shiftX", "J", false)
  | 6 => ("PantographArm$Drawing", "shiftY", "J", false)
  | 7 => ("PantographArm$Drawing", "size", "I", false)
  | 8 => ("PantographArm$Drawing", "xs", "[J", true)
  | 9 => ("PantographArm$Drawing", "ys", "[J", true)
  | _ => ("PantographArm$Drawing", "lines", "[I", true)
def tyX1 : Nat → FieldType := fun k => match k with
  | 0 => .int
  | 1 => .long
  | 2 => .long
  | 3 => .int
  | 4 => .int
  | 5 => .long
  | 6 => .long
  | 7 => .int
  | 8 => .array .long
  | 9 => .array .long
  | _ => .array .int
abbrev wsX10 : List Cond := u_ws RX1 TX1 11
theorem nmX1 : ∀ a, a < 11 → ∀ b, b < 11 → a ≠ b → (TX1 a).2.1 ≠ (TX1 b).2.1 := by decide +kernel
theorem tyX1_ok : ∀ k, k < 11 → parseFieldDescriptor (TX1 k).2.2.1 = some (tyX1 k) := by decide +kernel
abbrev cX1_init : ByteArray := prog_3_method_1_code
def yX1_init : MethodName := ⟨RX1, "<init>", "()V"⟩
abbrev cX1_begin : ByteArray := prog_3_method_2_code
def yX1_begin : MethodName := ⟨RX1, "begin", "(IJJ)V"⟩
abbrev cX1_takeFrom : ByteArray := prog_3_method_3_code
def yX1_takeFrom : MethodName := ⟨RX1, "takeFrom", "(LPantographArm$Drawing;)V"⟩
abbrev cX1_isCopy : ByteArray := prog_3_method_4_code
def yX1_isCopy : MethodName := ⟨RX1, "isCopy", "()Z"⟩
abbrev cX1_isFull : ByteArray := prog_3_method_5_code
def yX1_isFull : MethodName := ⟨RX1, "isFull", "()Z"⟩
abbrev cX1_add : ByteArray := prog_3_method_6_code
def yX1_add : MethodName := ⟨RX1, "add", "(JJI)V"⟩
abbrev cX1_has : ByteArray := prog_3_method_7_code
def yX1_has : MethodName := ⟨RX1, "has", "(I)Z"⟩
abbrev cX1_x : ByteArray := prog_3_method_8_code
def yX1_x : MethodName := ⟨RX1, "x", "(I)J"⟩
abbrev cX1_y : ByteArray := prog_3_method_9_code
def yX1_y : MethodName := ⟨RX1, "y", "(I)J"⟩
abbrev cX1_line : ByteArray := prog_3_method_10_code
def yX1_line : MethodName := ⟨RX1, "line", "(I)I"⟩
abbrev cX1_changeLine : ByteArray := prog_3_method_11_code
def yX1_changeLine : MethodName := ⟨RX1, "changeLine", "(II)V"⟩
abbrev cX1_isJoined : ByteArray := prog_3_method_12_code
def yX1_isJoined : MethodName := ⟨RX1, "isJoined", "(I)Z"⟩
abbrev cX1_width : ByteArray := prog_3_method_13_code
def yX1_width : MethodName := ⟨RX1, "width", "(I)I"⟩
abbrev cX1_lineLength : ByteArray := prog_3_method_14_code
def yX1_lineLength : MethodName := ⟨RX1, "lineLength", "(I)I"⟩
abbrev cX1_drawnLines : ByteArray := prog_3_method_15_code
def yX1_drawnLines : MethodName := ⟨RX1, "drawnLines", "()I"⟩
abbrev cX1_drawnLength : ByteArray := prog_3_method_16_code
def yX1_drawnLength : MethodName := ⟨RX1, "drawnLength", "()I"⟩
abbrev cX1_greatestWidth : ByteArray := prog_3_method_17_code
def yX1_greatestWidth : MethodName := ⟨RX1, "greatestWidth", "()I"⟩
abbrev cX1_ratioAsFloat : ByteArray := prog_3_method_18_code
def yX1_ratioAsFloat : MethodName := ⟨RX1, "ratioAsFloat", "()F"⟩
abbrev cX1_xAtOnce : ByteArray := prog_3_method_19_code
def yX1_xAtOnce : MethodName := ⟨RX1, "xAtOnce", "(J)J"⟩
abbrev cX1_yAtOnce : ByteArray := prog_3_method_20_code
def yX1_yAtOnce : MethodName := ⟨RX1, "yAtOnce", "(J)J"⟩
abbrev cX1_isTooFine : ByteArray := prog_3_method_21_code
def yX1_isTooFine : MethodName := ⟨RX1, "isTooFine", "()Z"⟩
def RX2 : String := "PantographArm$PointText"
def TX2 : u_T := fun k => match k with
  | 0 => ("PantographArm$PointText", "characters", "[C", true)
  | 1 => ("PantographArm$PointText", "length", "I", false)
  | 2 => ("PantographArm$PointText", "at", "I", false)
  | 3 => ("PantographArm$PointText", "faultAt", "I", false)
  | 4 => ("PantographArm$PointText", "reason", "I", false)
  | 5 => ("PantographArm$PointText", "xs", "[I", true)
  | 6 => ("PantographArm$PointText", "ys", "[I", true)
  | 7 => ("PantographArm$PointText", "joined", "[Z", true)
  | _ => ("PantographArm$PointText", "size", "I", false)
def tyX2 : Nat → FieldType := fun k => match k with
  | 0 => .array .char
  | 1 => .int
  | 2 => .int
  | 3 => .int
  | 4 => .int
  | 5 => .array .int
  | 6 => .array .int
  | 7 => .array .boolean
  | _ => .int
abbrev wsX20 : List Cond := u_ws RX2 TX2 9
theorem nmX2 : ∀ a, a < 9 → ∀ b, b < 9 → a ≠ b → (TX2 a).2.1 ≠ (TX2 b).2.1 := by decide +kernel
theorem tyX2_ok : ∀ k, k < 9 → parseFieldDescriptor (TX2 k).2.2.1 = some (tyX2 k) := by decide +kernel
abbrev cX2_init : ByteArray := prog_4_method_1_code
def yX2_init : MethodName := ⟨RX2, "<init>", "()V"⟩
abbrev cX2_append : ByteArray := prog_4_method_2_code
def yX2_append : MethodName := ⟨RX2, "append", "(C)Z"⟩
abbrev cX2_parse : ByteArray := prog_4_method_3_code
def yX2_parse : MethodName := ⟨RX2, "parse", "()I"⟩
abbrev cX2_parsePoint : ByteArray := prog_4_method_4_code
def yX2_parsePoint : MethodName := ⟨RX2, "parsePoint", "(Z)V"⟩
abbrev cX2_parseNumber : ByteArray := prog_4_method_5_code
def yX2_parseNumber : MethodName := ⟨RX2, "parseNumber", "()I"⟩
abbrev cX2_here : ByteArray := prog_4_method_6_code
def yX2_here : MethodName := ⟨RX2, "here", "()C"⟩
abbrev cX2_isDigit : ByteArray := prog_4_method_7_code
def yX2_isDigit : MethodName := ⟨RX2, "isDigit", "(C)Z"⟩
abbrev cX2_accept : ByteArray := prog_4_method_8_code
def yX2_accept : MethodName := ⟨RX2, "accept", "(C)Z"⟩
abbrev cX2_expect : ByteArray := prog_4_method_9_code
def yX2_expect : MethodName := ⟨RX2, "expect", "(C)V"⟩
abbrev cX2_failHere : ByteArray := prog_4_method_10_code
def yX2_failHere : MethodName := ⟨RX2, "failHere", "()V"⟩
abbrev cX2_fail : ByteArray := prog_4_method_11_code
def yX2_fail : MethodName := ⟨RX2, "fail", "(II)V"⟩
abbrev cX2_addPointsTo : ByteArray := prog_4_method_12_code
def yX2_addPointsTo : MethodName := ⟨RX2, "addPointsTo", "(LPantographArm$Drawing;)V"⟩
def RX3 : String := "PantographArm"
def TX3 : u_T := fun k => match k with
  | 0 => ("PantographArm", "now", "LPantographArm$Desk;", false)
  | 1 => ("PantographArm", "past", "[LPantographArm$Desk;", true)
  | 2 => ("PantographArm", "states", "I", false)
  | _ => ("PantographArm", "text", "LPantographArm$PointText;", true)
def tyX3 : Nat → FieldType := fun k => match k with
  | 0 => .object "PantographArm$Desk"
  | 1 => .array (.object "PantographArm$Desk")
  | 2 => .int
  | _ => .object "PantographArm$PointText"
abbrev wsX30 : List Cond := u_ws RX3 TX3 4
theorem nmX3 : ∀ a, a < 4 → ∀ b, b < 4 → a ≠ b → (TX3 a).2.1 ≠ (TX3 b).2.1 := by decide +kernel
theorem tyX3_ok : ∀ k, k < 4 → parseFieldDescriptor (TX3 k).2.2.1 = some (tyX3 k) := by decide +kernel
abbrev cX3_init : ByteArray := prog_1_method_1_code
def yX3_init : MethodName := ⟨RX3, "<init>", "()V"⟩
abbrev cX3_arm : ByteArray := prog_1_method_2_code
def yX3_arm : MethodName := ⟨RX3, "arm", "(II)I"⟩
abbrev cX3_pivot : ByteArray := prog_1_method_3_code
def yX3_pivot : MethodName := ⟨RX3, "pivot", "(II)I"⟩
abbrev cX3_set : ByteArray := prog_1_method_4_code
def yX3_set : MethodName := ⟨RX3, "set", "(II)I"⟩
abbrev cX3_count : ByteArray := prog_1_method_5_code
def yX3_count : MethodName := ⟨RX3, "count", "(I)I"⟩
abbrev cX3_sharpen : ByteArray := prog_1_method_6_code
def yX3_sharpen : MethodName := ⟨RX3, "sharpen", "()I"⟩
abbrev cX3_draw : ByteArray := prog_1_method_7_code
def yX3_draw : MethodName := ⟨RX3, "draw", "()I"⟩
abbrev cX3_point : ByteArray := prog_1_method_8_code
def yX3_point : MethodName := ⟨RX3, "point", "(IIII)I"⟩
abbrev cX3_remove : ByteArray := prog_1_method_9_code
def yX3_remove : MethodName := ⟨RX3, "remove", "(I)I"⟩
abbrev cX3_copy : ByteArray := prog_1_method_10_code
def yX3_copy : MethodName := ⟨RX3, "copy", "(I)I"⟩
abbrev cX3_why : ByteArray := prog_1_method_11_code
def yX3_why : MethodName := ⟨RX3, "why", "(I)I"⟩
abbrev cX3_drawing : ByteArray := prog_1_method_12_code
def yX3_drawing : MethodName := ⟨RX3, "drawing", "(II)I"⟩
abbrev cX3_ratio : ByteArray := prog_1_method_13_code
def yX3_ratio : MethodName := ⟨RX3, "ratio", "(II)I"⟩
abbrev cX3_pointInfo : ByteArray := prog_1_method_14_code
def yX3_pointInfo : MethodName := ⟨RX3, "pointInfo", "(III)J"⟩
abbrev cX3_atOnce : ByteArray := prog_1_method_15_code
def yX3_atOnce : MethodName := ⟨RX3, "atOnce", "(III)J"⟩
abbrev cX3_alike : ByteArray := prog_1_method_16_code
def yX3_alike : MethodName := ⟨RX3, "alike", "(II)I"⟩
abbrev cX3_armFor : ByteArray := prog_1_method_17_code
def yX3_armFor : MethodName := ⟨RX3, "armFor", "(II)I"⟩
abbrev cX3_undo : ByteArray := prog_1_method_18_code
def yX3_undo : MethodName := ⟨RX3, "undo", "()I"⟩
abbrev cX3_type : ByteArray := prog_1_method_19_code
def yX3_type : MethodName := ⟨RX3, "type", "(I)I"⟩
abbrev cX3_clearText : ByteArray := prog_1_method_20_code
def yX3_clearText : MethodName := ⟨RX3, "clearText", "()I"⟩
abbrev cX3_fault : ByteArray := prog_1_method_21_code
def yX3_fault : MethodName := ⟨RX3, "fault", "(I)I"⟩
abbrev cX3_read : ByteArray := prog_1_method_22_code
def yX3_read : MethodName := ⟨RX3, "read", "()I"⟩
abbrev cX3_remember : ByteArray := prog_1_method_23_code
def yX3_remember : MethodName := ⟨RX3, "remember", "()V"⟩
abbrev cX3_dropOldest : ByteArray := prog_1_method_24_code
def yX3_dropOldest : MethodName := ⟨RX3, "dropOldest", "()V"⟩
abbrev cX3_isWithin : ByteArray := prog_1_method_25_code
def yX3_isWithin : MethodName := ⟨RX3, "isWithin", "(III)Z"⟩
abbrev cX3_greatestDivisor : ByteArray := prog_1_method_26_code
def yX3_greatestDivisor : MethodName := ⟨RX3, "greatestDivisor", "(JJ)J"⟩
abbrev cX3_lowest : ByteArray := prog_1_method_27_code
def yX3_lowest : MethodName := ⟨RX3, "lowest", "(JJI)J"⟩
abbrev cX3_quotient : ByteArray := prog_1_method_28_code
def yX3_quotient : MethodName := ⟨RX3, "quotient", "(JJ)J"⟩
abbrev cX3_floatBits : ByteArray := prog_1_method_29_code
def yX3_floatBits : MethodName := ⟨RX3, "floatBits", "(F)I"⟩
def RX4 : String := "PantographArmModel"
def TX4 : u_T := fun k => match k with
  | 0 => ("PantographArmModel", "m", "[J", true)
  | 1 => ("PantographArmModel", "spare", "[J", true)
  | 2 => ("PantographArmModel", "saved", "[J", true)
  | 3 => ("PantographArmModel", "savedCount", "I", false)
  | 4 => ("PantographArmModel", "text", "[I", true)
  | 5 => ("PantographArmModel", "textLength", "I", false)
  | 6 => ("PantographArmModel", "top", "J", false)
  | 7 => ("PantographArmModel", "low", "J", false)
  | 8 => ("PantographArmModel", "at", "I", false)
  | 9 => ("PantographArmModel", "faultReason", "I", false)
  | 10 => ("PantographArmModel", "number", "I", false)
  | _ => ("PantographArmModel", "read", "[I", true)
def tyX4 : Nat → FieldType := fun k => match k with
  | 0 => .array .long
  | 1 => .array .long
  | 2 => .array .long
  | 3 => .int
  | 4 => .array .int
  | 5 => .int
  | 6 => .long
  | 7 => .long
  | 8 => .int
  | 9 => .int
  | 10 => .int
  | _ => .array .int
abbrev wsX40 : List Cond := u_ws RX4 TX4 12
theorem nmX4 : ∀ a, a < 12 → ∀ b, b < 12 → a ≠ b → (TX4 a).2.1 ≠ (TX4 b).2.1 := by decide +kernel
theorem tyX4_ok : ∀ k, k < 12 → parseFieldDescriptor (TX4 k).2.2.1 = some (tyX4 k) := by decide +kernel
abbrev cX4_init : ByteArray := prog_6_method_1_code
def yX4_init : MethodName := ⟨RX4, "<init>", "()V"⟩
abbrev cX4_in : ByteArray := prog_6_method_2_code
def yX4_in : MethodName := ⟨RX4, "in", "(III)Z"⟩
abbrev cX4_size : ByteArray := prog_6_method_3_code
def yX4_size : MethodName := ⟨RX4, "size", "(J)J"⟩
abbrev cX4_divisor : ByteArray := prog_6_method_4_code
def yX4_divisor : MethodName := ⟨RX4, "divisor", "(JJ)J"⟩
abbrev cX4_bring : ByteArray := prog_6_method_5_code
def yX4_bring : MethodName := ⟨RX4, "bring", "([JI[JI)V"⟩
abbrev cX4_keep : ByteArray := prog_6_method_6_code
def yX4_keep : MethodName := ⟨RX4, "keep", "()V"⟩
abbrev cX4_reduce : ByteArray := prog_6_method_7_code
def yX4_reduce : MethodName := ⟨RX4, "reduce", "(JJ)V"⟩
abbrev cX4_plus : ByteArray := prog_6_method_8_code
def yX4_plus : MethodName := ⟨RX4, "plus", "(JJJJJ)V"⟩
abbrev cX4_put : ByteArray := prog_6_method_9_code
def yX4_put : MethodName := ⟨RX4, "put", "(I)V"⟩
abbrev cX4_of : ByteArray := prog_6_method_10_code
def yX4_of : MethodName := ⟨RX4, "of", "(I)I"⟩
abbrev cX4_arm : ByteArray := prog_6_method_11_code
def yX4_arm : MethodName := ⟨RX4, "arm", "(II)I"⟩
abbrev cX4_pivot : ByteArray := prog_6_method_12_code
def yX4_pivot : MethodName := ⟨RX4, "pivot", "(II)I"⟩
abbrev cX4_isSetting : ByteArray := prog_6_method_13_code
def yX4_isSetting : MethodName := ⟨RX4, "isSetting", "(II)Z"⟩
abbrev cX4_set : ByteArray := prog_6_method_14_code
def yX4_set : MethodName := ⟨RX4, "set", "(II)I"⟩
abbrev cX4_isBlunt : ByteArray := prog_6_method_15_code
def yX4_isBlunt : MethodName := ⟨RX4, "isBlunt", "()Z"⟩
abbrev cX4_count : ByteArray := prog_6_method_16_code
def yX4_count : MethodName := ⟨RX4, "count", "(I)I"⟩
abbrev cX4_sharpen : ByteArray := prog_6_method_17_code
def yX4_sharpen : MethodName := ⟨RX4, "sharpen", "()I"⟩
abbrev cX4_isDrawing : ByteArray := prog_6_method_18_code
def yX4_isDrawing : MethodName := ⟨RX4, "isDrawing", "(I)Z"⟩
abbrev cX4_head : ByteArray := prog_6_method_19_code
def yX4_head : MethodName := ⟨RX4, "head", "(II)I"⟩
abbrev cX4_cellOf : ByteArray := prog_6_method_20_code
def yX4_cellOf : MethodName := ⟨RX4, "cellOf", "(II)I"⟩
abbrev cX4_points : ByteArray := prog_6_method_21_code
def yX4_points : MethodName := ⟨RX4, "points", "(I)I"⟩
abbrev cX4_isPoint : ByteArray := prog_6_method_22_code
def yX4_isPoint : MethodName := ⟨RX4, "isPoint", "(II)Z"⟩
abbrev cX4_isCopied : ByteArray := prog_6_method_23_code
def yX4_isCopied : MethodName := ⟨RX4, "isCopied", "(I)Z"⟩
abbrev cX4_begins : ByteArray := prog_6_method_24_code
def yX4_begins : MethodName := ⟨RX4, "begins", "()I"⟩
abbrev cX4_draw : ByteArray := prog_6_method_25_code
def yX4_draw : MethodName := ⟨RX4, "draw", "()I"⟩
abbrev cX4_lengthTo : ByteArray := prog_6_method_26_code
def yX4_lengthTo : MethodName := ⟨RX4, "lengthTo", "(II)I"⟩
abbrev cX4_adds : ByteArray := prog_6_method_27_code
def yX4_adds : MethodName := ⟨RX4, "adds", "(IIII)V"⟩
abbrev cX4_point : ByteArray := prog_6_method_28_code
def yX4_point : MethodName := ⟨RX4, "point", "(IIII)I"⟩
abbrev cX4_remove : ByteArray := prog_6_method_29_code
def yX4_remove : MethodName := ⟨RX4, "remove", "(I)I"⟩
abbrev cX4_signOf : ByteArray := prog_6_method_30_code
def yX4_signOf : MethodName := ⟨RX4, "signOf", "(I)I"⟩
abbrev cX4_aim : ByteArray := prog_6_method_31_code
def yX4_aim : MethodName := ⟨RX4, "aim", "(IJJ)V"⟩
abbrev cX4_follow : ByteArray := prog_6_method_32_code
def yX4_follow : MethodName := ⟨RX4, "follow", "(JJ)V"⟩
abbrev cX4_trace : ByteArray := prog_6_method_33_code
def yX4_trace : MethodName := ⟨RX4, "trace", "(III)V"⟩
abbrev cX4_isOnBoard : ByteArray := prog_6_method_34_code
def yX4_isOnBoard : MethodName := ⟨RX4, "isOnBoard", "(II)Z"⟩
abbrev cX4_line : ByteArray := prog_6_method_35_code
def yX4_line : MethodName := ⟨RX4, "line", "(II)V"⟩
abbrev cX4_shift : ByteArray := prog_6_method_36_code
def yX4_shift : MethodName := ⟨RX4, "shift", "(III)V"⟩
abbrev cX4_copies : ByteArray := prog_6_method_37_code
def yX4_copies : MethodName := ⟨RX4, "copies", "(I)Z"⟩
abbrev cX4_reason : ByteArray := prog_6_method_38_code
def yX4_reason : MethodName := ⟨RX4, "reason", "(I)I"⟩
abbrev cX4_why : ByteArray := prog_6_method_39_code
def yX4_why : MethodName := ⟨RX4, "why", "(I)I"⟩
abbrev cX4_copy : ByteArray := prog_6_method_40_code
def yX4_copy : MethodName := ⟨RX4, "copy", "(I)I"⟩
abbrev cX4_root : ByteArray := prog_6_method_41_code
def yX4_root : MethodName := ⟨RX4, "root", "(I)I"⟩
abbrev cX4_steps : ByteArray := prog_6_method_42_code
def yX4_steps : MethodName := ⟨RX4, "steps", "(I)I"⟩
abbrev cX4_lines : ByteArray := prog_6_method_43_code
def yX4_lines : MethodName := ⟨RX4, "lines", "(II)I"⟩
abbrev cX4_offBoard : ByteArray := prog_6_method_44_code
def yX4_offBoard : MethodName := ⟨RX4, "offBoard", "(I)I"⟩
abbrev cX4_ratioOf : ByteArray := prog_6_method_45_code
def yX4_ratioOf : MethodName := ⟨RX4, "ratioOf", "(I)F"⟩
abbrev cX4_drawingOf : ByteArray := prog_6_method_46_code
def yX4_drawingOf : MethodName := ⟨RX4, "drawingOf", "(II)I"⟩
abbrev cX4_drawing : ByteArray := prog_6_method_47_code
def yX4_drawing : MethodName := ⟨RX4, "drawing", "(II)I"⟩
abbrev cX4_ratio : ByteArray := prog_6_method_48_code
def yX4_ratio : MethodName := ⟨RX4, "ratio", "(II)I"⟩
abbrev cX4_pointInfo : ByteArray := prog_6_method_49_code
def yX4_pointInfo : MethodName := ⟨RX4, "pointInfo", "(III)J"⟩
abbrev cX4_atOnce : ByteArray := prog_6_method_50_code
def yX4_atOnce : MethodName := ⟨RX4, "atOnce", "(III)J"⟩
abbrev cX4_alike : ByteArray := prog_6_method_51_code
def yX4_alike : MethodName := ⟨RX4, "alike", "(II)I"⟩
abbrev cX4_armFor : ByteArray := prog_6_method_52_code
def yX4_armFor : MethodName := ⟨RX4, "armFor", "(II)I"⟩
abbrev cX4_undo : ByteArray := prog_6_method_53_code
def yX4_undo : MethodName := ⟨RX4, "undo", "()I"⟩
abbrev cX4_type : ByteArray := prog_6_method_54_code
def yX4_type : MethodName := ⟨RX4, "type", "(I)I"⟩
abbrev cX4_clearText : ByteArray := prog_6_method_55_code
def yX4_clearText : MethodName := ⟨RX4, "clearText", "()I"⟩
abbrev cX4_here : ByteArray := prog_6_method_56_code
def yX4_here : MethodName := ⟨RX4, "here", "()I"⟩
abbrev cX4_isFault : ByteArray := prog_6_method_57_code
def yX4_isFault : MethodName := ⟨RX4, "isFault", "()Z"⟩
abbrev cX4_readNumber : ByteArray := prog_6_method_58_code
def yX4_readNumber : MethodName := ⟨RX4, "readNumber", "()Z"⟩
abbrev cX4_readPoint : ByteArray := prog_6_method_59_code
def yX4_readPoint : MethodName := ⟨RX4, "readPoint", "(II)Z"⟩
abbrev cX4_readText : ByteArray := prog_6_method_60_code
def yX4_readText : MethodName := ⟨RX4, "readText", "()I"⟩
abbrev cX4_fault : ByteArray := prog_6_method_61_code
def yX4_fault : MethodName := ⟨RX4, "fault", "(I)I"⟩
abbrev cX4_read : ByteArray := prog_6_method_62_code
def yX4_read : MethodName := ⟨RX4, "read", "()I"⟩
def RJxf58ca : String := "java/lang/Float"
def TJxf58ca : u_T := fun k => match k with
  | _ => ("", "", "", false)
def tyJxf58ca : Nat → FieldType := fun k => match k with
  | _ => .int
abbrev wsJxf58ca0 : List Cond := u_ws RJxf58ca TJxf58ca 0
theorem nmJxf58ca : ∀ a, a < 0 → ∀ b, b < 0 → a ≠ b → (TJxf58ca a).2.1 ≠ (TJxf58ca b).2.1 := by decide +kernel
theorem tyJxf58ca_ok : ∀ k, k < 0 → parseFieldDescriptor (TJxf58ca k).2.2.1 = some (tyJxf58ca k) := by decide +kernel
abbrev cJxf58ca_isNaN_12338 : ByteArray := prog_7_method_6_code
def yJxf58ca_isNaN_12338 : MethodName := ⟨RJxf58ca, "isNaN", "(F)Z"⟩
abbrev cJxf58ca_floatToIntBits_5c35a : ByteArray := prog_7_method_24_code
def yJxf58ca_floatToIntBits_5c35a : MethodName := ⟨RJxf58ca, "floatToIntBits", "(F)I"⟩
def RJ9 : String := "java/lang/Math"
def TJ9 : u_T := fun k => match k with
  | _ => ("", "", "", false)
def tyJ9 : Nat → FieldType := fun k => match k with
  | _ => .int
abbrev wsJ90 : List Cond := u_ws RJ9 TJ9 0
theorem nmJ9 : ∀ a, a < 0 → ∀ b, b < 0 → a ≠ b → (TJ9 a).2.1 ≠ (TJ9 b).2.1 := by decide +kernel
theorem tyJ9_ok : ∀ k, k < 0 → parseFieldDescriptor (TJ9 k).2.2.1 = some (tyJ9 k) := by decide +kernel
abbrev cJ9_abs_067f4 : ByteArray := prog_8_method_61_code
def yJ9_abs_067f4 : MethodName := ⟨RJ9, "abs", "(J)J"⟩
abbrev cJ9_max_7cf53 : ByteArray := prog_8_method_65_code
def yJ9_max_7cf53 : MethodName := ⟨RJ9, "max", "(II)I"⟩
abbrev cJ9_min_7cf53 : ByteArray := prog_8_method_69_code
def yJ9_min_7cf53 : MethodName := ⟨RJ9, "min", "(II)I"⟩
def RL : String := "PantographArmLaw"
abbrev cL_law : ByteArray := code
def yL_law : MethodName := ⟨RL, "law", "([I)Z"⟩
end
section
/-- the words that every method of ours is given -/
def GW : List Cond := lw_tbl.filter goodWord
theorem gwm {w : Cond} (h : w ∈ tables_1) (g : goodWord w = true) : w ∈ GW := List.mem_filter.mpr ⟨List.mem_append_right _ h, g⟩
theorem gwp {w : Cond} (h : w ∈ k2_sels lw_privs) (g : goodWord w = true) : w ∈ GW := List.mem_filter.mpr ⟨List.mem_append_left _ h, g⟩
theorem gw_good : GoodIn GW GW := fun w h => ⟨h, good_of_word (List.mem_filter.mp h).2⟩
theorem gw_tbl : ∀ w ∈ GW, w ∈ lw_tbl := fun _ h => (List.mem_filter.mp h).1
theorem in_t1 {w : Cond} {i : Nat} (h0 : tables_1_1[i]? = some w) (g : goodWord w = true) : w ∈ GW := gwm (have h := List.mem_of_getElem? h0; List.mem_append_left _ h) g
theorem in_t2 {w : Cond} {i : Nat} (h0 : tables_1_2[i]? = some w) (g : goodWord w = true) : w ∈ GW := gwm (have h := List.mem_of_getElem? h0; List.mem_append_right _ (List.mem_append_left _ h)) g
theorem in_t3 {w : Cond} {i : Nat} (h0 : tables_1_3[i]? = some w) (g : goodWord w = true) : w ∈ GW := gwm (have h := List.mem_of_getElem? h0; List.mem_append_right _ (List.mem_append_right _ (List.mem_append_left _ h))) g
theorem in_t4 {w : Cond} {i : Nat} (h0 : tables_1_4[i]? = some w) (g : goodWord w = true) : w ∈ GW := gwm (have h := List.mem_of_getElem? h0; List.mem_append_right _ (List.mem_append_right _ (List.mem_append_right _ (h)))) g
theorem in_p1 {q : MethodName × Nat} {i : Nat} (h0 : lw_privs_1[i]? = some q) : Cond.selects q.1.cls q.1 q.1 ∈ GW := gwp (List.mem_map.mpr ⟨q, (have h := List.mem_of_getElem? h0; List.mem_append_left _ h), rfl⟩) rfl
theorem in_p2 {q : MethodName × Nat} {i : Nat} (h0 : lw_privs_2[i]? = some q) : Cond.selects q.1.cls q.1 q.1 ∈ GW := gwp (List.mem_map.mpr ⟨q, (have h := List.mem_of_getElem? h0; List.mem_append_right _ (List.mem_append_left _ h)), rfl⟩) rfl
theorem in_p3 {q : MethodName × Nat} {i : Nat} (h0 : lw_privs_3[i]? = some q) : Cond.selects q.1.cls q.1 q.1 ∈ GW := gwp (List.mem_map.mpr ⟨q, (have h := List.mem_of_getElem? h0; List.mem_append_right _ (List.mem_append_right _ (h))), rfl⟩) rfl
theorem cl_L_7 : Cond.classLink RL 7 RX3 ∈ GW := in_t1 (i := 8) rfl rfl
theorem ins_X3 : Cond.instantiable RX3 4 ∈ GW := in_t1 (i := 9) rfl rfl
theorem ini_X3 : Cond.initialized RX3 ∈ GW := in_t1 (i := 1) rfl rfl
theorem cl_L_10 : Cond.classLink RL 10 RX4 ∈ GW := in_t3 (i := 62) rfl rfl
theorem ins_X4 : Cond.instantiable RX4 12 ∈ GW := in_t3 (i := 63) rfl rfl
theorem ini_X4 : Cond.initialized RX4 ∈ GW := in_t1 (i := 5) rfl rfl
theorem ml_L_9 : Cond.methodLink RL 9 yX3_init ∈ GW := in_t1 (i := 10) rfl rfl
theorem im_X3_init : Cond.instanceMethod yX3_init ∈ GW := in_t1 (i := 11) rfl rfl
theorem cd_X3_init : Cond.code yX3_init cX3_init 2 none ∈ GW := in_t1 (i := 12) rfl rfl
theorem ml_X3_1 : Cond.methodLink RX3 1 objectInit ∈ GW := in_t1 (i := 13) rfl rfl
theorem im_objectInit : Cond.instanceMethod objectInit ∈ GW := in_t1 (i := 14) rfl rfl
theorem cd_objectInit : Cond.code objectInit ⟨#[0xb1]⟩ 1 none ∈ GW := in_t1 (i := 15) rfl rfl
theorem cl_X3_7 : Cond.classLink RX3 7 RX0 ∈ GW := in_t1 (i := 16) rfl rfl
theorem ins_X0 : Cond.instantiable RX0 12 ∈ GW := in_t1 (i := 17) rfl rfl
theorem ini_X0 : Cond.initialized RX0 ∈ GW := in_t1 (i := 2) rfl rfl
theorem fl_X3_10 : Cond.fieldLink RX3 10 "PantographArm" "now" "LPantographArm$Desk;" ∈ GW := in_t1 (i := 168) rfl rfl
theorem fl_X3_16 : Cond.fieldLink RX3 16 "PantographArm" "past" "[LPantographArm$Desk;" ∈ GW := in_t1 (i := 169) rfl rfl
theorem fl_X3_20 : Cond.fieldLink RX3 20 "PantographArm" "states" "I" ∈ GW := in_t1 (i := 170) rfl rfl
theorem cl_X3_24 : Cond.classLink RX3 24 RX2 ∈ GW := in_t1 (i := 129) rfl rfl
theorem ins_X2 : Cond.instantiable RX2 9 ∈ GW := in_t1 (i := 130) rfl rfl
theorem ini_X2 : Cond.initialized RX2 ∈ GW := in_t1 (i := 4) rfl rfl
theorem fl_X3_27 : Cond.fieldLink RX3 27 "PantographArm" "text" "LPantographArm$PointText;" ∈ GW := in_t1 (i := 171) rfl rfl
theorem ml_X3_9 : Cond.methodLink RX3 9 yX0_init ∈ GW := in_t1 (i := 18) rfl rfl
theorem im_X0_init : Cond.instanceMethod yX0_init ∈ GW := in_t1 (i := 19) rfl rfl
theorem cd_X0_init : Cond.code yX0_init cX0_init 2 none ∈ GW := in_t1 (i := 20) rfl rfl
theorem ml_X0_3 : Cond.methodLink RX0 3 objectInit ∈ GW := in_t1 (i := 21) rfl rfl
theorem fl_X0_9 : Cond.fieldLink RX0 9 "PantographArm$Desk" "a" "I" ∈ GW := in_t1 (i := 81) rfl rfl
theorem fl_X0_15 : Cond.fieldLink RX0 15 "PantographArm$Desk" "b" "I" ∈ GW := in_t1 (i := 83) rfl rfl
theorem fl_X0_18 : Cond.fieldLink RX0 18 "PantographArm$Desk" "pivotX" "I" ∈ GW := in_t1 (i := 85) rfl rfl
theorem fl_X0_21 : Cond.fieldLink RX0 21 "PantographArm$Desk" "pivotY" "I" ∈ GW := in_t1 (i := 87) rfl rfl
theorem ac__int : Cond.arrayClass .int ∈ GW := in_t1 (i := 79) rfl rfl
theorem fl_X0_28 : Cond.fieldLink RX0 28 "PantographArm$Desk" "settings" "[I" ∈ GW := in_t1 (i := 89) rfl rfl
theorem fl_X0_31 : Cond.fieldLink RX0 31 "PantographArm$Desk" "wear" "I" ∈ GW := in_t1 (i := 90) rfl rfl
theorem fl_X0_34 : Cond.fieldLink RX0 34 "PantographArm$Desk" "sharpenings" "I" ∈ GW := in_t1 (i := 92) rfl rfl
theorem fl_X0_37 : Cond.fieldLink RX0 37 "PantographArm$Desk" "drawnLines" "I" ∈ GW := in_t1 (i := 94) rfl rfl
theorem fl_X0_40 : Cond.fieldLink RX0 40 "PantographArm$Desk" "drawnLength" "I" ∈ GW := in_t1 (i := 96) rfl rfl
theorem fl_X0_43 : Cond.fieldLink RX0 43 "PantographArm$Desk" "leftOut" "I" ∈ GW := in_t1 (i := 98) rfl rfl
theorem cl_X0_46 : Cond.classLink RX0 46 RX1 ∈ GW := in_t1 (i := 24) rfl rfl
theorem fl_X0_48 : Cond.fieldLink RX0 48 "PantographArm$Desk" "drawings" "[LPantographArm$Drawing;" ∈ GW := in_t1 (i := 100) rfl rfl
theorem fl_X0_52 : Cond.fieldLink RX0 52 "PantographArm$Desk" "size" "I" ∈ GW := in_t1 (i := 101) rfl rfl
theorem ins_X1 : Cond.instantiable RX1 11 ∈ GW := in_t1 (i := 26) rfl rfl
theorem ini_X1 : Cond.initialized RX1 ∈ GW := in_t1 (i := 3) rfl rfl
theorem ml_X0_55 : Cond.methodLink RX0 55 yX1_init ∈ GW := in_t1 (i := 27) rfl rfl
theorem im_X1_init : Cond.instanceMethod yX1_init ∈ GW := in_t1 (i := 28) rfl rfl
theorem cd_X1_init : Cond.code yX1_init cX1_init 1 none ∈ GW := in_t1 (i := 29) rfl rfl
theorem ml_X1_3 : Cond.methodLink RX1 3 objectInit ∈ GW := in_t1 (i := 30) rfl rfl
theorem fl_X1_9 : Cond.fieldLink RX1 9 "PantographArm$Drawing" "parent" "I" ∈ GW := in_t1 (i := 31) rfl rfl
theorem fl_X1_15 : Cond.fieldLink RX1 15 "PantographArm$Drawing" "scale" "J" ∈ GW := in_t1 (i := 34) rfl rfl
theorem fl_X1_19 : Cond.fieldLink RX1 19 "PantographArm$Drawing" "parts" "J" ∈ GW := in_t1 (i := 37) rfl rfl
theorem fl_X1_22 : Cond.fieldLink RX1 22 "PantographArm$Drawing" "signX" "I" ∈ GW := in_t1 (i := 40) rfl rfl
theorem fl_X1_25 : Cond.fieldLink RX1 25 "PantographArm$Drawing" "signY" "I" ∈ GW := in_t1 (i := 43) rfl rfl
theorem fl_X1_28 : Cond.fieldLink RX1 28 "PantographArm$Drawing" "shiftX" "J" ∈ GW := in_t1 (i := 46) rfl rfl
theorem fl_X1_31 : Cond.fieldLink RX1 31 "PantographArm$Drawing" "shiftY" "J" ∈ GW := in_t1 (i := 48) rfl rfl
theorem fl_X1_34 : Cond.fieldLink RX1 34 "PantographArm$Drawing" "size" "I" ∈ GW := in_t1 (i := 50) rfl rfl
theorem ac__long : Cond.arrayClass .long ∈ GW := in_t1 (i := 80) rfl rfl
theorem fl_X1_37 : Cond.fieldLink RX1 37 "PantographArm$Drawing" "xs" "[J" ∈ GW := in_t1 (i := 53) rfl rfl
theorem fl_X1_41 : Cond.fieldLink RX1 41 "PantographArm$Drawing" "ys" "[J" ∈ GW := in_t1 (i := 54) rfl rfl
theorem fl_X1_44 : Cond.fieldLink RX1 44 "PantographArm$Drawing" "lines" "[I" ∈ GW := in_t1 (i := 55) rfl rfl
theorem ml_X3_26 : Cond.methodLink RX3 26 yX2_init ∈ GW := in_t1 (i := 131) rfl rfl
theorem im_X2_init : Cond.instanceMethod yX2_init ∈ GW := in_t1 (i := 132) rfl rfl
theorem cd_X2_init : Cond.code yX2_init cX2_init 1 none ∈ GW := in_t1 (i := 133) rfl rfl
theorem ml_X2_3 : Cond.methodLink RX2 3 objectInit ∈ GW := in_t1 (i := 134) rfl rfl
theorem ac__char : Cond.arrayClass .char ∈ GW := in_t1 (i := 166) rfl rfl
theorem fl_X2_9 : Cond.fieldLink RX2 9 "PantographArm$PointText" "characters" "[C" ∈ GW := in_t1 (i := 135) rfl rfl
theorem fl_X2_15 : Cond.fieldLink RX2 15 "PantographArm$PointText" "length" "I" ∈ GW := in_t1 (i := 136) rfl rfl
theorem fl_X2_19 : Cond.fieldLink RX2 19 "PantographArm$PointText" "at" "I" ∈ GW := in_t1 (i := 138) rfl rfl
theorem fl_X2_22 : Cond.fieldLink RX2 22 "PantographArm$PointText" "faultAt" "I" ∈ GW := in_t1 (i := 139) rfl rfl
theorem fl_X2_25 : Cond.fieldLink RX2 25 "PantographArm$PointText" "reason" "I" ∈ GW := in_t1 (i := 141) rfl rfl
theorem fl_X2_28 : Cond.fieldLink RX2 28 "PantographArm$PointText" "xs" "[I" ∈ GW := in_t1 (i := 143) rfl rfl
theorem fl_X2_32 : Cond.fieldLink RX2 32 "PantographArm$PointText" "ys" "[I" ∈ GW := in_t1 (i := 144) rfl rfl
theorem ac__boolean : Cond.arrayClass .boolean ∈ GW := in_t1 (i := 167) rfl rfl
theorem fl_X2_35 : Cond.fieldLink RX2 35 "PantographArm$PointText" "joined" "[Z" ∈ GW := in_t1 (i := 145) rfl rfl
theorem fl_X2_39 : Cond.fieldLink RX2 39 "PantographArm$PointText" "size" "I" ∈ GW := in_t1 (i := 146) rfl rfl
theorem ml_L_12 : Cond.methodLink RL 12 yX4_init ∈ GW := in_t3 (i := 64) rfl rfl
theorem im_X4_init : Cond.instanceMethod yX4_init ∈ GW := in_t3 (i := 65) rfl rfl
theorem cd_X4_init : Cond.code yX4_init cX4_init 1 none ∈ GW := in_t3 (i := 66) rfl rfl
theorem ml_X4_1 : Cond.methodLink RX4 1 objectInit ∈ GW := in_t3 (i := 67) rfl rfl
theorem fl_X4_7 : Cond.fieldLink RX4 7 "PantographArmModel" "m" "[J" ∈ GW := in_t3 (i := 70) rfl rfl
theorem fl_X4_13 : Cond.fieldLink RX4 13 "PantographArmModel" "spare" "[J" ∈ GW := in_t3 (i := 71) rfl rfl
theorem fl_X4_16 : Cond.fieldLink RX4 16 "PantographArmModel" "saved" "[J" ∈ GW := in_t3 (i := 72) rfl rfl
theorem fl_X4_19 : Cond.fieldLink RX4 19 "PantographArmModel" "text" "[I" ∈ GW := in_t3 (i := 74) rfl rfl
theorem fl_X4_23 : Cond.fieldLink RX4 23 "PantographArmModel" "read" "[I" ∈ GW := in_t3 (i := 81) rfl rfl
theorem kl_X4_26 : Cond.constantLong RX4 26 (1000) ∈ GW := in_t3 (i := 68) rfl rfl
theorem kl_X4_28 : Cond.constantLong RX4 28 (100) ∈ GW := in_t3 (i := 69) rfl rfl
theorem ml_L_13 : Cond.methodLink RL 13 yX3_arm ∈ GW := in_t1 (i := 181) rfl rfl
theorem im_X3_arm : Cond.instanceMethod yX3_arm ∈ GW := in_t1 (i := 182) rfl rfl
theorem se_X3_arm : Cond.selects RX3 yX3_arm yX3_arm ∈ GW := in_t1 (i := 183) rfl rfl
theorem cd_X3_arm : Cond.code yX3_arm cX3_arm 4 (some .int) ∈ GW := in_t1 (i := 184) rfl rfl
theorem kc_X3_35 : Cond.constant RX3 35 (-2000000001) ∈ GW := in_t1 (i := 188) rfl rfl
theorem ml_X3_31 : Cond.methodLink RX3 31 yX3_isWithin ∈ GW := in_t1 (i := 185) rfl rfl
theorem st_X3_isWithin : Cond.static yX3_isWithin ∈ GW := in_t1 (i := 186) rfl rfl
theorem cd_X3_isWithin : Cond.code yX3_isWithin cX3_isWithin 3 (some .boolean) ∈ GW := in_t1 (i := 187) rfl rfl
theorem ml_X3_42 : Cond.methodLink RX3 42 yX3_remember ∈ GW := in_t1 (i := 189) rfl rfl
theorem im_X3_remember : Cond.instanceMethod yX3_remember ∈ GW := in_t1 (i := 191) rfl rfl
theorem se_X3_remember : Cond.selects RX3 yX3_remember yX3_remember ∈ GW := in_p1 (i := 0) rfl
theorem cd_X3_remember : Cond.code yX3_remember cX3_remember 1 none ∈ GW := in_t1 (i := 192) rfl rfl
theorem ml_X3_229 : Cond.methodLink RX3 229 yX3_dropOldest ∈ GW := in_t1 (i := 193) rfl rfl
theorem im_X3_dropOldest : Cond.instanceMethod yX3_dropOldest ∈ GW := in_t1 (i := 195) rfl rfl
theorem se_X3_dropOldest : Cond.selects RX3 yX3_dropOldest yX3_dropOldest ∈ GW := in_p1 (i := 1) rfl
theorem cd_X3_dropOldest : Cond.code yX3_dropOldest cX3_dropOldest 3 none ∈ GW := in_t1 (i := 196) rfl rfl
theorem ml_X3_232 : Cond.methodLink RX3 232 yX0_takeFrom ∈ GW := in_t1 (i := 197) rfl rfl
theorem im_X0_takeFrom : Cond.instanceMethod yX0_takeFrom ∈ GW := in_t1 (i := 198) rfl rfl
theorem se_X0_takeFrom : Cond.selects RX0 yX0_takeFrom yX0_takeFrom ∈ GW := in_t1 (i := 199) rfl rfl
theorem cd_X0_takeFrom : Cond.code yX0_takeFrom cX0_takeFrom 5 none ∈ GW := in_t1 (i := 200) rfl rfl
theorem ml_X0_56 : Cond.methodLink RX0 56 yX0_setting ∈ GW := in_t1 (i := 201) rfl rfl
theorem im_X0_setting : Cond.instanceMethod yX0_setting ∈ GW := in_t1 (i := 202) rfl rfl
theorem se_X0_setting : Cond.selects RX0 yX0_setting yX0_setting ∈ GW := in_t1 (i := 203) rfl rfl
theorem cd_X0_setting : Cond.code yX0_setting cX0_setting 2 (some .int) ∈ GW := in_t1 (i := 204) rfl rfl
theorem ml_X0_60 : Cond.methodLink RX0 60 yX0_find ∈ GW := in_t1 (i := 205) rfl rfl
theorem im_X0_find : Cond.instanceMethod yX0_find ∈ GW := in_t1 (i := 206) rfl rfl
theorem se_X0_find : Cond.selects RX0 yX0_find yX0_find ∈ GW := in_t1 (i := 207) rfl rfl
theorem cd_X0_find : Cond.code yX0_find cX0_find 2 (some (.object "PantographArm$Drawing")) ∈ GW := in_t1 (i := 208) rfl rfl
theorem ml_X0_64 : Cond.methodLink RX0 64 yX1_takeFrom ∈ GW := in_t1 (i := 209) rfl rfl
theorem im_X1_takeFrom : Cond.instanceMethod yX1_takeFrom ∈ GW := in_t1 (i := 210) rfl rfl
theorem se_X1_takeFrom : Cond.selects RX1 yX1_takeFrom yX1_takeFrom ∈ GW := in_t1 (i := 211) rfl rfl
theorem cd_X1_takeFrom : Cond.code yX1_takeFrom cX1_takeFrom 3 none ∈ GW := in_t1 (i := 212) rfl rfl
theorem ml_X1_48 : Cond.methodLink RX1 48 yX1_begin ∈ GW := in_t1 (i := 213) rfl rfl
theorem im_X1_begin : Cond.instanceMethod yX1_begin ∈ GW := in_t1 (i := 214) rfl rfl
theorem se_X1_begin : Cond.selects RX1 yX1_begin yX1_begin ∈ GW := in_t1 (i := 215) rfl rfl
theorem cd_X1_begin : Cond.code yX1_begin cX1_begin 6 none ∈ GW := in_t1 (i := 216) rfl rfl
theorem ml_X1_52 : Cond.methodLink RX1 52 yX1_x ∈ GW := in_t1 (i := 217) rfl rfl
theorem im_X1_x : Cond.instanceMethod yX1_x ∈ GW := in_t1 (i := 218) rfl rfl
theorem se_X1_x : Cond.selects RX1 yX1_x yX1_x ∈ GW := in_t1 (i := 219) rfl rfl
theorem cd_X1_x : Cond.code yX1_x cX1_x 2 (some .long) ∈ GW := in_t1 (i := 220) rfl rfl
theorem ml_X1_67 : Cond.methodLink RX1 67 yX1_has ∈ GW := in_t1 (i := 221) rfl rfl
theorem im_X1_has : Cond.instanceMethod yX1_has ∈ GW := in_t1 (i := 222) rfl rfl
theorem se_X1_has : Cond.selects RX1 yX1_has yX1_has ∈ GW := in_t1 (i := 223) rfl rfl
theorem cd_X1_has : Cond.code yX1_has cX1_has 2 (some .boolean) ∈ GW := in_t1 (i := 224) rfl rfl
theorem ml_X1_56 : Cond.methodLink RX1 56 yX1_y ∈ GW := in_t1 (i := 225) rfl rfl
theorem im_X1_y : Cond.instanceMethod yX1_y ∈ GW := in_t1 (i := 226) rfl rfl
theorem se_X1_y : Cond.selects RX1 yX1_y yX1_y ∈ GW := in_t1 (i := 227) rfl rfl
theorem cd_X1_y : Cond.code yX1_y cX1_y 2 (some .long) ∈ GW := in_t1 (i := 228) rfl rfl
theorem ml_X1_59 : Cond.methodLink RX1 59 yX1_line ∈ GW := in_t1 (i := 229) rfl rfl
theorem im_X1_line : Cond.instanceMethod yX1_line ∈ GW := in_t1 (i := 230) rfl rfl
theorem se_X1_line : Cond.selects RX1 yX1_line yX1_line ∈ GW := in_t1 (i := 231) rfl rfl
theorem cd_X1_line : Cond.code yX1_line cX1_line 2 (some .int) ∈ GW := in_t1 (i := 232) rfl rfl
theorem ml_X1_63 : Cond.methodLink RX1 63 yX1_add ∈ GW := in_t1 (i := 233) rfl rfl
theorem im_X1_add : Cond.instanceMethod yX1_add ∈ GW := in_t1 (i := 234) rfl rfl
theorem se_X1_add : Cond.selects RX1 yX1_add yX1_add ∈ GW := in_t1 (i := 235) rfl rfl
theorem cd_X1_add : Cond.code yX1_add cX1_add 6 none ∈ GW := in_t1 (i := 236) rfl rfl
theorem ml_L_17 : Cond.methodLink RL 17 yX4_arm ∈ GW := in_t3 (i := 107) rfl rfl
theorem im_X4_arm : Cond.instanceMethod yX4_arm ∈ GW := in_t3 (i := 108) rfl rfl
theorem se_X4_arm : Cond.selects RX4 yX4_arm yX4_arm ∈ GW := in_t3 (i := 109) rfl rfl
theorem cd_X4_arm : Cond.code yX4_arm cX4_arm 4 (some .int) ∈ GW := in_t3 (i := 110) rfl rfl
theorem kc_X4_61 : Cond.constant RX4 61 (-2000000001) ∈ GW := in_t3 (i := 114) rfl rfl
theorem ml_X4_57 : Cond.methodLink RX4 57 yX4_in ∈ GW := in_t3 (i := 111) rfl rfl
theorem st_X4_in : Cond.static yX4_in ∈ GW := in_t3 (i := 112) rfl rfl
theorem cd_X4_in : Cond.code yX4_in cX4_in 3 (some .boolean) ∈ GW := in_t3 (i := 113) rfl rfl
theorem ml_X4_62 : Cond.methodLink RX4 62 yX4_keep ∈ GW := in_t3 (i := 115) rfl rfl
theorem im_X4_keep : Cond.instanceMethod yX4_keep ∈ GW := in_t3 (i := 117) rfl rfl
theorem se_X4_keep : Cond.selects RX4 yX4_keep yX4_keep ∈ GW := in_p1 (i := 9) rfl
theorem cd_X4_keep : Cond.code yX4_keep cX4_keep 2 none ∈ GW := in_t3 (i := 118) rfl rfl
theorem fl_X4_34 : Cond.fieldLink RX4 34 "PantographArmModel" "savedCount" "I" ∈ GW := in_t3 (i := 73) rfl rfl
theorem ml_X4_38 : Cond.methodLink RX4 38 yX4_bring ∈ GW := in_t3 (i := 119) rfl rfl
theorem st_X4_bring : Cond.static yX4_bring ∈ GW := in_t3 (i := 120) rfl rfl
theorem cd_X4_bring : Cond.code yX4_bring cX4_bring 5 none ∈ GW := in_t3 (i := 121) rfl rfl
theorem ml_X4_65 : Cond.methodLink RX4 65 yX4_of ∈ GW := in_t3 (i := 122) rfl rfl
theorem im_X4_of : Cond.instanceMethod yX4_of ∈ GW := in_t3 (i := 124) rfl rfl
theorem se_X4_of : Cond.selects RX4 yX4_of yX4_of ∈ GW := in_p1 (i := 10) rfl
theorem cd_X4_of : Cond.code yX4_of cX4_of 2 (some .int) ∈ GW := in_t3 (i := 125) rfl rfl
theorem ml_L_18 : Cond.methodLink RL 18 yX3_pivot ∈ GW := in_t1 (i := 237) rfl rfl
theorem im_X3_pivot : Cond.instanceMethod yX3_pivot ∈ GW := in_t1 (i := 238) rfl rfl
theorem se_X3_pivot : Cond.selects RX3 yX3_pivot yX3_pivot ∈ GW := in_t1 (i := 239) rfl rfl
theorem cd_X3_pivot : Cond.code yX3_pivot cX3_pivot 4 (some .int) ∈ GW := in_t2 (i := 0) rfl rfl
theorem ml_L_21 : Cond.methodLink RL 21 yX4_pivot ∈ GW := in_t3 (i := 126) rfl rfl
theorem im_X4_pivot : Cond.instanceMethod yX4_pivot ∈ GW := in_t3 (i := 127) rfl rfl
theorem se_X4_pivot : Cond.selects RX4 yX4_pivot yX4_pivot ∈ GW := in_t3 (i := 128) rfl rfl
theorem cd_X4_pivot : Cond.code yX4_pivot cX4_pivot 4 (some .int) ∈ GW := in_t3 (i := 129) rfl rfl
theorem ml_L_22 : Cond.methodLink RL 22 yX3_set ∈ GW := in_t2 (i := 1) rfl rfl
theorem im_X3_set : Cond.instanceMethod yX3_set ∈ GW := in_t2 (i := 2) rfl rfl
theorem se_X3_set : Cond.selects RX3 yX3_set yX3_set ∈ GW := in_t2 (i := 3) rfl rfl
theorem cd_X3_set : Cond.code yX3_set cX3_set 4 (some .int) ∈ GW := in_t2 (i := 4) rfl rfl
theorem fl_X3_51 : Cond.fieldLink RX3 51 "PantographArm" "LEAST_SETTING" "[I" ∈ GW := in_t2 (i := 5) rfl rfl
theorem fl_X3_55 : Cond.fieldLink RX3 55 "PantographArm" "MOST_SETTING" "[I" ∈ GW := in_t2 (i := 7) rfl rfl
theorem ml_X3_58 : Cond.methodLink RX3 58 yX0_setting ∈ GW := in_t2 (i := 9) rfl rfl
theorem ml_X3_62 : Cond.methodLink RX3 62 yX0_changeSetting ∈ GW := in_t2 (i := 10) rfl rfl
theorem im_X0_changeSetting : Cond.instanceMethod yX0_changeSetting ∈ GW := in_t2 (i := 11) rfl rfl
theorem se_X0_changeSetting : Cond.selects RX0 yX0_changeSetting yX0_changeSetting ∈ GW := in_t2 (i := 12) rfl rfl
theorem cd_X0_changeSetting : Cond.code yX0_changeSetting cX0_changeSetting 3 none ∈ GW := in_t2 (i := 13) rfl rfl
theorem ml_L_25 : Cond.methodLink RL 25 yX4_set ∈ GW := in_t3 (i := 130) rfl rfl
theorem im_X4_set : Cond.instanceMethod yX4_set ∈ GW := in_t3 (i := 131) rfl rfl
theorem se_X4_set : Cond.selects RX4 yX4_set yX4_set ∈ GW := in_t3 (i := 132) rfl rfl
theorem cd_X4_set : Cond.code yX4_set cX4_set 4 (some .int) ∈ GW := in_t3 (i := 133) rfl rfl
theorem ml_X4_69 : Cond.methodLink RX4 69 yX4_isSetting ∈ GW := in_t3 (i := 134) rfl rfl
theorem st_X4_isSetting : Cond.static yX4_isSetting ∈ GW := in_t3 (i := 135) rfl rfl
theorem cd_X4_isSetting : Cond.code yX4_isSetting cX4_isSetting 2 (some .boolean) ∈ GW := in_t3 (i := 136) rfl rfl
theorem ml_L_26 : Cond.methodLink RL 26 yX3_count ∈ GW := in_t2 (i := 14) rfl rfl
theorem im_X3_count : Cond.instanceMethod yX3_count ∈ GW := in_t2 (i := 15) rfl rfl
theorem se_X3_count : Cond.selects RX3 yX3_count yX3_count ∈ GW := in_t2 (i := 16) rfl rfl
theorem cd_X3_count : Cond.code yX3_count cX3_count 2 (some .int) ∈ GW := in_t2 (i := 17) rfl rfl
theorem ml_X3_72 : Cond.methodLink RX3 72 yX0_isBlunt ∈ GW := in_t2 (i := 18) rfl rfl
theorem im_X0_isBlunt : Cond.instanceMethod yX0_isBlunt ∈ GW := in_t2 (i := 19) rfl rfl
theorem se_X0_isBlunt : Cond.selects RX0 yX0_isBlunt yX0_isBlunt ∈ GW := in_t2 (i := 20) rfl rfl
theorem cd_X0_isBlunt : Cond.code yX0_isBlunt cX0_isBlunt 1 (some .boolean) ∈ GW := in_t2 (i := 21) rfl rfl
theorem ml_X0_103 : Cond.methodLink RX0 103 yX0_wornWidth ∈ GW := in_t2 (i := 22) rfl rfl
theorem im_X0_wornWidth : Cond.instanceMethod yX0_wornWidth ∈ GW := in_t2 (i := 23) rfl rfl
theorem se_X0_wornWidth : Cond.selects RX0 yX0_wornWidth yX0_wornWidth ∈ GW := in_t2 (i := 24) rfl rfl
theorem cd_X0_wornWidth : Cond.code yX0_wornWidth cX0_wornWidth 1 (some .int) ∈ GW := in_t2 (i := 25) rfl rfl
theorem st_X3_quotient : Cond.static yX3_quotient ∈ GW := in_t2 (i := 27) rfl rfl
theorem cd_X3_quotient : Cond.code yX3_quotient cX3_quotient 4 (some .long) ∈ GW := in_t2 (i := 28) rfl rfl
theorem ml_L_30 : Cond.methodLink RL 30 yX4_count ∈ GW := in_t3 (i := 137) rfl rfl
theorem im_X4_count : Cond.instanceMethod yX4_count ∈ GW := in_t3 (i := 138) rfl rfl
theorem se_X4_count : Cond.selects RX4 yX4_count yX4_count ∈ GW := in_t3 (i := 139) rfl rfl
theorem cd_X4_count : Cond.code yX4_count cX4_count 2 (some .int) ∈ GW := in_t3 (i := 140) rfl rfl
theorem fl_X4_79 : Cond.fieldLink RX4 79 "PantographArmModel" "textLength" "I" ∈ GW := in_t3 (i := 75) rfl rfl
theorem ml_X4_75 : Cond.methodLink RX4 75 yX4_isBlunt ∈ GW := in_t3 (i := 141) rfl rfl
theorem im_X4_isBlunt : Cond.instanceMethod yX4_isBlunt ∈ GW := in_t3 (i := 143) rfl rfl
theorem se_X4_isBlunt : Cond.selects RX4 yX4_isBlunt yX4_isBlunt ∈ GW := in_p1 (i := 11) rfl
theorem cd_X4_isBlunt : Cond.code yX4_isBlunt cX4_isBlunt 1 (some .boolean) ∈ GW := in_t3 (i := 144) rfl rfl
theorem kl_X4_73 : Cond.constantLong RX4 73 (9) ∈ GW := in_t3 (i := 145) rfl rfl
theorem ml_L_31 : Cond.methodLink RL 31 yX3_sharpen ∈ GW := in_t2 (i := 29) rfl rfl
theorem im_X3_sharpen : Cond.instanceMethod yX3_sharpen ∈ GW := in_t2 (i := 30) rfl rfl
theorem se_X3_sharpen : Cond.selects RX3 yX3_sharpen yX3_sharpen ∈ GW := in_t2 (i := 31) rfl rfl
theorem cd_X3_sharpen : Cond.code yX3_sharpen cX3_sharpen 2 (some .int) ∈ GW := in_t2 (i := 32) rfl rfl
theorem kc_X3_91 : Cond.constant RX3 91 (-2000000003) ∈ GW := in_t2 (i := 33) rfl rfl
theorem ml_L_35 : Cond.methodLink RL 35 yX4_sharpen ∈ GW := in_t3 (i := 146) rfl rfl
theorem im_X4_sharpen : Cond.instanceMethod yX4_sharpen ∈ GW := in_t3 (i := 147) rfl rfl
theorem se_X4_sharpen : Cond.selects RX4 yX4_sharpen yX4_sharpen ∈ GW := in_t3 (i := 148) rfl rfl
theorem cd_X4_sharpen : Cond.code yX4_sharpen cX4_sharpen 2 (some .int) ∈ GW := in_t3 (i := 149) rfl rfl
theorem kl_X4_82 : Cond.constantLong RX4 82 (10) ∈ GW := in_t3 (i := 150) rfl rfl
theorem kc_X4_84 : Cond.constant RX4 84 (-2000000003) ∈ GW := in_t3 (i := 151) rfl rfl
theorem ml_L_36 : Cond.methodLink RL 36 yX3_draw ∈ GW := in_t2 (i := 34) rfl rfl
theorem im_X3_draw : Cond.instanceMethod yX3_draw ∈ GW := in_t2 (i := 35) rfl rfl
theorem se_X3_draw : Cond.selects RX3 yX3_draw yX3_draw ∈ GW := in_t2 (i := 36) rfl rfl
theorem cd_X3_draw : Cond.code yX3_draw cX3_draw 1 (some .int) ∈ GW := in_t2 (i := 37) rfl rfl
theorem ml_X3_92 : Cond.methodLink RX3 92 yX0_spare ∈ GW := in_t2 (i := 38) rfl rfl
theorem im_X0_spare : Cond.instanceMethod yX0_spare ∈ GW := in_t2 (i := 39) rfl rfl
theorem se_X0_spare : Cond.selects RX0 yX0_spare yX0_spare ∈ GW := in_t2 (i := 40) rfl rfl
theorem cd_X0_spare : Cond.code yX0_spare cX0_spare 1 (some (.object "PantographArm$Drawing")) ∈ GW := in_t2 (i := 41) rfl rfl
theorem ml_X3_96 : Cond.methodLink RX3 96 yX0_beginOriginal ∈ GW := in_t2 (i := 42) rfl rfl
theorem im_X0_beginOriginal : Cond.instanceMethod yX0_beginOriginal ∈ GW := in_t2 (i := 43) rfl rfl
theorem se_X0_beginOriginal : Cond.selects RX0 yX0_beginOriginal yX0_beginOriginal ∈ GW := in_t2 (i := 44) rfl rfl
theorem cd_X0_beginOriginal : Cond.code yX0_beginOriginal cX0_beginOriginal 2 (some .int) ∈ GW := in_t2 (i := 45) rfl rfl
theorem ml_X0_68 : Cond.methodLink RX0 68 yX0_spare ∈ GW := in_t2 (i := 46) rfl rfl
theorem ml_X0_72 : Cond.methodLink RX0 72 yX1_begin ∈ GW := in_t2 (i := 47) rfl rfl
theorem ml_L_39 : Cond.methodLink RL 39 yX4_draw ∈ GW := in_t3 (i := 152) rfl rfl
theorem im_X4_draw : Cond.instanceMethod yX4_draw ∈ GW := in_t3 (i := 153) rfl rfl
theorem se_X4_draw : Cond.selects RX4 yX4_draw yX4_draw ∈ GW := in_t3 (i := 154) rfl rfl
theorem cd_X4_draw : Cond.code yX4_draw cX4_draw 1 (some .int) ∈ GW := in_t3 (i := 155) rfl rfl
theorem kl_X4_98 : Cond.constantLong RX4 98 (6) ∈ GW := in_t3 (i := 156) rfl rfl
theorem ml_X4_100 : Cond.methodLink RX4 100 yX4_begins ∈ GW := in_t3 (i := 157) rfl rfl
theorem im_X4_begins : Cond.instanceMethod yX4_begins ∈ GW := in_t3 (i := 159) rfl rfl
theorem se_X4_begins : Cond.selects RX4 yX4_begins yX4_begins ∈ GW := in_p1 (i := 12) rfl
theorem cd_X4_begins : Cond.code yX4_begins cX4_begins 3 (some .int) ∈ GW := in_t3 (i := 160) rfl rfl
theorem kl_X4_96 : Cond.constantLong RX4 96 (-1) ∈ GW := in_t3 (i := 164) rfl rfl
theorem ml_X4_85 : Cond.methodLink RX4 85 yX4_head ∈ GW := in_t3 (i := 161) rfl rfl
theorem st_X4_head : Cond.static yX4_head ∈ GW := in_t3 (i := 162) rfl rfl
theorem cd_X4_head : Cond.code yX4_head cX4_head 2 (some .int) ∈ GW := in_t3 (i := 163) rfl rfl
theorem ml_L_40 : Cond.methodLink RL 40 yX3_point ∈ GW := in_t2 (i := 48) rfl rfl
theorem im_X3_point : Cond.instanceMethod yX3_point ∈ GW := in_t2 (i := 49) rfl rfl
theorem se_X3_point : Cond.selects RX3 yX3_point yX3_point ∈ GW := in_t2 (i := 50) rfl rfl
theorem cd_X3_point : Cond.code yX3_point cX3_point 6 (some .int) ∈ GW := in_t2 (i := 51) rfl rfl
theorem kc_X3_113 : Cond.constant RX3 113 (-2000000002) ∈ GW := in_t2 (i := 61) rfl rfl
theorem ml_X3_100 : Cond.methodLink RX3 100 yX0_find ∈ GW := in_t2 (i := 52) rfl rfl
theorem ml_X3_104 : Cond.methodLink RX3 104 yX1_isCopy ∈ GW := in_t2 (i := 53) rfl rfl
theorem im_X1_isCopy : Cond.instanceMethod yX1_isCopy ∈ GW := in_t2 (i := 54) rfl rfl
theorem se_X1_isCopy : Cond.selects RX1 yX1_isCopy yX1_isCopy ∈ GW := in_t2 (i := 55) rfl rfl
theorem cd_X1_isCopy : Cond.code yX1_isCopy cX1_isCopy 1 (some .boolean) ∈ GW := in_t2 (i := 56) rfl rfl
theorem ml_X3_109 : Cond.methodLink RX3 109 yX0_hasCopies ∈ GW := in_t2 (i := 57) rfl rfl
theorem im_X0_hasCopies : Cond.instanceMethod yX0_hasCopies ∈ GW := in_t2 (i := 58) rfl rfl
theorem se_X0_hasCopies : Cond.selects RX0 yX0_hasCopies yX0_hasCopies ∈ GW := in_t2 (i := 59) rfl rfl
theorem cd_X0_hasCopies : Cond.code yX0_hasCopies cX0_hasCopies 4 (some .boolean) ∈ GW := in_t2 (i := 60) rfl rfl
theorem ml_X3_114 : Cond.methodLink RX3 114 yX1_isFull ∈ GW := in_t2 (i := 62) rfl rfl
theorem im_X1_isFull : Cond.instanceMethod yX1_isFull ∈ GW := in_t2 (i := 63) rfl rfl
theorem se_X1_isFull : Cond.selects RX1 yX1_isFull yX1_isFull ∈ GW := in_t2 (i := 64) rfl rfl
theorem cd_X1_isFull : Cond.code yX1_isFull cX1_isFull 1 (some .boolean) ∈ GW := in_t2 (i := 65) rfl rfl
theorem ml_X3_117 : Cond.methodLink RX3 117 yX1_add ∈ GW := in_t2 (i := 66) rfl rfl
theorem ml_L_44 : Cond.methodLink RL 44 yX4_point ∈ GW := in_t3 (i := 165) rfl rfl
theorem im_X4_point : Cond.instanceMethod yX4_point ∈ GW := in_t3 (i := 166) rfl rfl
theorem se_X4_point : Cond.selects RX4 yX4_point yX4_point ∈ GW := in_t3 (i := 167) rfl rfl
theorem cd_X4_point : Cond.code yX4_point cX4_point 5 (some .int) ∈ GW := in_t3 (i := 168) rfl rfl
theorem kc_X4_117 : Cond.constant RX4 117 (-2000000002) ∈ GW := in_t3 (i := 177) rfl rfl
theorem ml_X4_89 : Cond.methodLink RX4 89 yX4_isDrawing ∈ GW := in_t3 (i := 169) rfl rfl
theorem im_X4_isDrawing : Cond.instanceMethod yX4_isDrawing ∈ GW := in_t3 (i := 171) rfl rfl
theorem se_X4_isDrawing : Cond.selects RX4 yX4_isDrawing yX4_isDrawing ∈ GW := in_p1 (i := 13) rfl
theorem cd_X4_isDrawing : Cond.code yX4_isDrawing cX4_isDrawing 2 (some .boolean) ∈ GW := in_t3 (i := 172) rfl rfl
theorem ml_X4_114 : Cond.methodLink RX4 114 yX4_isCopied ∈ GW := in_t3 (i := 173) rfl rfl
theorem im_X4_isCopied : Cond.instanceMethod yX4_isCopied ∈ GW := in_t3 (i := 175) rfl rfl
theorem se_X4_isCopied : Cond.selects RX4 yX4_isCopied yX4_isCopied ∈ GW := in_p1 (i := 14) rfl
theorem cd_X4_isCopied : Cond.code yX4_isCopied cX4_isCopied 4 (some .boolean) ∈ GW := in_t3 (i := 176) rfl rfl
theorem ml_X4_93 : Cond.methodLink RX4 93 yX4_points ∈ GW := in_t3 (i := 178) rfl rfl
theorem im_X4_points : Cond.instanceMethod yX4_points ∈ GW := in_t3 (i := 180) rfl rfl
theorem se_X4_points : Cond.selects RX4 yX4_points yX4_points ∈ GW := in_p1 (i := 15) rfl
theorem cd_X4_points : Cond.code yX4_points cX4_points 2 (some .int) ∈ GW := in_t3 (i := 181) rfl rfl
theorem ml_X4_118 : Cond.methodLink RX4 118 yX4_adds ∈ GW := in_t3 (i := 182) rfl rfl
theorem im_X4_adds : Cond.instanceMethod yX4_adds ∈ GW := in_t3 (i := 184) rfl rfl
theorem se_X4_adds : Cond.selects RX4 yX4_adds yX4_adds ∈ GW := in_p2 (i := 0) rfl
theorem cd_X4_adds : Cond.code yX4_adds cX4_adds 8 none ∈ GW := in_t3 (i := 185) rfl rfl
theorem ml_X4_104 : Cond.methodLink RX4 104 yX4_cellOf ∈ GW := in_t3 (i := 186) rfl rfl
theorem st_X4_cellOf : Cond.static yX4_cellOf ∈ GW := in_t3 (i := 187) rfl rfl
theorem cd_X4_cellOf : Cond.code yX4_cellOf cX4_cellOf 2 (some .int) ∈ GW := in_t3 (i := 188) rfl rfl
theorem ml_X4_111 : Cond.methodLink RX4 111 yX4_lengthTo ∈ GW := in_t3 (i := 189) rfl rfl
theorem im_X4_lengthTo : Cond.instanceMethod yX4_lengthTo ∈ GW := in_t3 (i := 191) rfl rfl
theorem se_X4_lengthTo : Cond.selects RX4 yX4_lengthTo yX4_lengthTo ∈ GW := in_p2 (i := 1) rfl
theorem cd_X4_lengthTo : Cond.code yX4_lengthTo cX4_lengthTo 9 (some .int) ∈ GW := in_t3 (i := 192) rfl rfl
theorem fl_X4_46 : Cond.fieldLink RX4 46 "PantographArmModel" "top" "J" ∈ GW := in_t3 (i := 76) rfl rfl
theorem fl_X4_50 : Cond.fieldLink RX4 50 "PantographArmModel" "low" "J" ∈ GW := in_t3 (i := 77) rfl rfl
theorem ml_X4_107 : Cond.methodLink RX4 107 yX4_plus ∈ GW := in_t3 (i := 193) rfl rfl
theorem im_X4_plus : Cond.instanceMethod yX4_plus ∈ GW := in_t3 (i := 195) rfl rfl
theorem se_X4_plus : Cond.selects RX4 yX4_plus yX4_plus ∈ GW := in_p2 (i := 2) rfl
theorem cd_X4_plus : Cond.code yX4_plus cX4_plus 13 none ∈ GW := in_t3 (i := 196) rfl rfl
theorem ml_X4_42 : Cond.methodLink RX4 42 yX4_divisor ∈ GW := in_t3 (i := 197) rfl rfl
theorem st_X4_divisor : Cond.static yX4_divisor ∈ GW := in_t3 (i := 198) rfl rfl
theorem cd_X4_divisor : Cond.code yX4_divisor cX4_divisor 10 (some .long) ∈ GW := in_t3 (i := 199) rfl rfl
theorem ml_X4_30 : Cond.methodLink RX4 30 yX4_size ∈ GW := in_t3 (i := 200) rfl rfl
theorem st_X4_size : Cond.static yX4_size ∈ GW := in_t3 (i := 201) rfl rfl
theorem cd_X4_size : Cond.code yX4_size cX4_size 2 (some .long) ∈ GW := in_t3 (i := 202) rfl rfl
theorem ml_X4_53 : Cond.methodLink RX4 53 yX4_reduce ∈ GW := in_t3 (i := 203) rfl rfl
theorem im_X4_reduce : Cond.instanceMethod yX4_reduce ∈ GW := in_t3 (i := 205) rfl rfl
theorem se_X4_reduce : Cond.selects RX4 yX4_reduce yX4_reduce ∈ GW := in_p2 (i := 3) rfl
theorem cd_X4_reduce : Cond.code yX4_reduce cX4_reduce 7 none ∈ GW := in_t3 (i := 206) rfl rfl
theorem ml_L_45 : Cond.methodLink RL 45 yX3_remove ∈ GW := in_t2 (i := 67) rfl rfl
theorem im_X3_remove : Cond.instanceMethod yX3_remove ∈ GW := in_t2 (i := 68) rfl rfl
theorem se_X3_remove : Cond.selects RX3 yX3_remove yX3_remove ∈ GW := in_t2 (i := 69) rfl rfl
theorem cd_X3_remove : Cond.code yX3_remove cX3_remove 2 (some .int) ∈ GW := in_t2 (i := 70) rfl rfl
theorem ml_X3_122 : Cond.methodLink RX3 122 yX0_takeAway ∈ GW := in_t2 (i := 71) rfl rfl
theorem im_X0_takeAway : Cond.instanceMethod yX0_takeAway ∈ GW := in_t2 (i := 72) rfl rfl
theorem se_X0_takeAway : Cond.selects RX0 yX0_takeAway yX0_takeAway ∈ GW := in_t2 (i := 73) rfl rfl
theorem cd_X0_takeAway : Cond.code yX0_takeAway cX0_takeAway 6 none ∈ GW := in_t2 (i := 74) rfl rfl
theorem ml_L_48 : Cond.methodLink RL 48 yX4_remove ∈ GW := in_t3 (i := 207) rfl rfl
theorem im_X4_remove : Cond.instanceMethod yX4_remove ∈ GW := in_t3 (i := 208) rfl rfl
theorem se_X4_remove : Cond.selects RX4 yX4_remove yX4_remove ∈ GW := in_t3 (i := 209) rfl rfl
theorem cd_X4_remove : Cond.code yX4_remove cX4_remove 3 (some .int) ∈ GW := in_t3 (i := 210) rfl rfl
theorem ml_L_49 : Cond.methodLink RL 49 yX3_copy ∈ GW := in_t2 (i := 75) rfl rfl
theorem im_X3_copy : Cond.instanceMethod yX3_copy ∈ GW := in_t2 (i := 76) rfl rfl
theorem se_X3_copy : Cond.selects RX3 yX3_copy yX3_copy ∈ GW := in_t2 (i := 77) rfl rfl
theorem cd_X3_copy : Cond.code yX3_copy cX3_copy 3 (some .int) ∈ GW := in_t2 (i := 78) rfl rfl
theorem ml_X3_126 : Cond.methodLink RX3 126 yX0_reasonAgainst ∈ GW := in_t2 (i := 79) rfl rfl
theorem im_X0_reasonAgainst : Cond.instanceMethod yX0_reasonAgainst ∈ GW := in_t2 (i := 80) rfl rfl
theorem se_X0_reasonAgainst : Cond.selects RX0 yX0_reasonAgainst yX0_reasonAgainst ∈ GW := in_t2 (i := 81) rfl rfl
theorem cd_X0_reasonAgainst : Cond.code yX0_reasonAgainst cX0_reasonAgainst 4 (some .int) ∈ GW := in_t2 (i := 82) rfl rfl
theorem ml_X0_124 : Cond.methodLink RX0 124 yX0_isBlunt ∈ GW := in_t2 (i := 83) rfl rfl
theorem ml_X0_127 : Cond.methodLink RX0 127 yX0_trace ∈ GW := in_t2 (i := 84) rfl rfl
theorem im_X0_trace : Cond.instanceMethod yX0_trace ∈ GW := in_t2 (i := 85) rfl rfl
theorem se_X0_trace : Cond.selects RX0 yX0_trace yX0_trace ∈ GW := in_t2 (i := 86) rfl rfl
theorem cd_X0_trace : Cond.code yX0_trace cX0_trace 11 none ∈ GW := in_t2 (i := 87) rfl rfl
theorem ml_X0_140 : Cond.methodLink RX0 140 yX0_signX ∈ GW := in_t2 (i := 88) rfl rfl
theorem im_X0_signX : Cond.instanceMethod yX0_signX ∈ GW := in_t2 (i := 89) rfl rfl
theorem se_X0_signX : Cond.selects RX0 yX0_signX yX0_signX ∈ GW := in_t2 (i := 90) rfl rfl
theorem cd_X0_signX : Cond.code yX0_signX cX0_signX 1 (some .int) ∈ GW := in_t2 (i := 91) rfl rfl
theorem ml_X0_145 : Cond.methodLink RX0 145 yX0_signY ∈ GW := in_t2 (i := 92) rfl rfl
theorem im_X0_signY : Cond.instanceMethod yX0_signY ∈ GW := in_t2 (i := 93) rfl rfl
theorem se_X0_signY : Cond.selects RX0 yX0_signY yX0_signY ∈ GW := in_t2 (i := 94) rfl rfl
theorem cd_X0_signY : Cond.code yX0_signY cX0_signY 1 (some .int) ∈ GW := in_t2 (i := 95) rfl rfl
theorem ml_X0_150 : Cond.methodLink RX0 150 yX0_aim ∈ GW := in_t2 (i := 96) rfl rfl
theorem im_X0_aim : Cond.instanceMethod yX0_aim ∈ GW := in_t2 (i := 97) rfl rfl
theorem se_X0_aim : Cond.selects RX0 yX0_aim yX0_aim ∈ GW := in_t2 (i := 98) rfl rfl
theorem cd_X0_aim : Cond.code yX0_aim cX0_aim 7 (some .long) ∈ GW := in_t2 (i := 99) rfl rfl
theorem ml_X0_83 : Cond.methodLink RX0 83 yX1_x ∈ GW := in_t2 (i := 100) rfl rfl
theorem ml_X0_87 : Cond.methodLink RX0 87 yX1_y ∈ GW := in_t2 (i := 101) rfl rfl
theorem ml_X0_107 : Cond.methodLink RX0 107 yX1_isJoined ∈ GW := in_t2 (i := 102) rfl rfl
theorem im_X1_isJoined : Cond.instanceMethod yX1_isJoined ∈ GW := in_t2 (i := 103) rfl rfl
theorem se_X1_isJoined : Cond.selects RX1 yX1_isJoined yX1_isJoined ∈ GW := in_t2 (i := 104) rfl rfl
theorem cd_X1_isJoined : Cond.code yX1_isJoined cX1_isJoined 2 (some .boolean) ∈ GW := in_t2 (i := 105) rfl rfl
theorem ml_X0_157 : Cond.methodLink RX0 157 yX0_follow ∈ GW := in_t2 (i := 106) rfl rfl
theorem st_X0_follow : Cond.static yX0_follow ∈ GW := in_t2 (i := 107) rfl rfl
theorem cd_X0_follow : Cond.code yX0_follow cX0_follow 6 (some .long) ∈ GW := in_t2 (i := 108) rfl rfl
theorem ml_X0_161 : Cond.methodLink RX0 161 yX1_add ∈ GW := in_t2 (i := 109) rfl rfl
theorem ml_X0_131 : Cond.methodLink RX0 131 yX1_isTooFine ∈ GW := in_t2 (i := 110) rfl rfl
theorem im_X1_isTooFine : Cond.instanceMethod yX1_isTooFine ∈ GW := in_t2 (i := 111) rfl rfl
theorem se_X1_isTooFine : Cond.selects RX1 yX1_isTooFine yX1_isTooFine ∈ GW := in_t2 (i := 112) rfl rfl
theorem cd_X1_isTooFine : Cond.code yX1_isTooFine cX1_isTooFine 2 (some .boolean) ∈ GW := in_t2 (i := 113) rfl rfl
theorem kl_X1_95 : Cond.constantLong RX1 95 (100000) ∈ GW := in_t2 (i := 123) rfl rfl
theorem st_X3_lowest : Cond.static yX3_lowest ∈ GW := in_t2 (i := 115) rfl rfl
theorem cd_X3_lowest : Cond.code yX3_lowest cX3_lowest 9 (some .long) ∈ GW := in_t2 (i := 116) rfl rfl
theorem ml_X3_236 : Cond.methodLink RX3 236 Lib.MathLoose.abs_long.x ∈ GW := in_t2 (i := 117) rfl rfl
theorem st_m_Lib_MathLoose_abs_long_x : Cond.static Lib.MathLoose.abs_long.x ∈ GW := in_t2 (i := 118) rfl rfl
theorem ini_java_lang_Math : Cond.initialized "java/lang/Math" ∈ GW := in_t1 (i := 6) rfl rfl
theorem cd_m_Lib_MathLoose_abs_long_x : Cond.code Lib.MathLoose.abs_long.x Lib.MathLoose.abs_long.code 2 (some .long) ∈ GW := in_t2 (i := 119) rfl rfl
theorem ml_X3_241 : Cond.methodLink RX3 241 yX3_greatestDivisor ∈ GW := in_t2 (i := 120) rfl rfl
theorem st_X3_greatestDivisor : Cond.static yX3_greatestDivisor ∈ GW := in_t2 (i := 121) rfl rfl
theorem cd_X3_greatestDivisor : Cond.code yX3_greatestDivisor cX3_greatestDivisor 11 (some .long) ∈ GW := in_t2 (i := 122) rfl rfl
theorem ml_X3_130 : Cond.methodLink RX3 130 yX0_keepTraced ∈ GW := in_t2 (i := 124) rfl rfl
theorem im_X0_keepTraced : Cond.instanceMethod yX0_keepTraced ∈ GW := in_t2 (i := 125) rfl rfl
theorem se_X0_keepTraced : Cond.selects RX0 yX0_keepTraced yX0_keepTraced ∈ GW := in_t2 (i := 126) rfl rfl
theorem cd_X0_keepTraced : Cond.code yX0_keepTraced cX0_keepTraced 3 (some .int) ∈ GW := in_t2 (i := 127) rfl rfl
theorem ml_X0_165 : Cond.methodLink RX0 165 yX0_drawLine ∈ GW := in_t2 (i := 128) rfl rfl
theorem im_X0_drawLine : Cond.instanceMethod yX0_drawLine ∈ GW := in_t2 (i := 129) rfl rfl
theorem se_X0_drawLine : Cond.selects RX0 yX0_drawLine yX0_drawLine ∈ GW := in_t2 (i := 130) rfl rfl
theorem cd_X0_drawLine : Cond.code yX0_drawLine cX0_drawLine 4 none ∈ GW := in_t2 (i := 131) rfl rfl
theorem ml_X0_114 : Cond.methodLink RX0 114 Lib.Math.min.name ∈ GW := in_t2 (i := 142) rfl rfl
theorem st_m_Lib_Math_min_name : Cond.static Lib.Math.min.name ∈ GW := in_t2 (i := 143) rfl rfl
theorem cd_m_Lib_Math_min_name : Cond.code Lib.Math.min.name Lib.Math.min.code 2 (some .int) ∈ GW := in_t2 (i := 144) rfl rfl
theorem ml_X0_95 : Cond.methodLink RX0 95 yX0_isOnBoard ∈ GW := in_t2 (i := 132) rfl rfl
theorem im_X0_isOnBoard : Cond.instanceMethod yX0_isOnBoard ∈ GW := in_t2 (i := 133) rfl rfl
theorem se_X0_isOnBoard : Cond.selects RX0 yX0_isOnBoard yX0_isOnBoard ∈ GW := in_t2 (i := 134) rfl rfl
theorem cd_X0_isOnBoard : Cond.code yX0_isOnBoard cX0_isOnBoard 7 (some .boolean) ∈ GW := in_t2 (i := 135) rfl rfl
theorem ml_X0_111 : Cond.methodLink RX0 111 yX1_lineLength ∈ GW := in_t2 (i := 136) rfl rfl
theorem im_X1_lineLength : Cond.instanceMethod yX1_lineLength ∈ GW := in_t2 (i := 137) rfl rfl
theorem se_X1_lineLength : Cond.selects RX1 yX1_lineLength yX1_lineLength ∈ GW := in_t2 (i := 138) rfl rfl
theorem cd_X1_lineLength : Cond.code yX1_lineLength cX1_lineLength 6 (some .int) ∈ GW := in_t2 (i := 139) rfl rfl
theorem ml_X1_77 : Cond.methodLink RX1 77 Lib.MathLoose.abs_long.x ∈ GW := in_t2 (i := 140) rfl rfl
theorem ml_X0_120 : Cond.methodLink RX0 120 yX1_changeLine ∈ GW := in_t2 (i := 145) rfl rfl
theorem im_X1_changeLine : Cond.instanceMethod yX1_changeLine ∈ GW := in_t2 (i := 146) rfl rfl
theorem se_X1_changeLine : Cond.selects RX1 yX1_changeLine yX1_changeLine ∈ GW := in_t2 (i := 147) rfl rfl
theorem cd_X1_changeLine : Cond.code yX1_changeLine cX1_changeLine 3 none ∈ GW := in_t2 (i := 148) rfl rfl
theorem ml_L_52 : Cond.methodLink RL 52 yX4_copy ∈ GW := in_t4 (i := 9) rfl rfl
theorem im_X4_copy : Cond.instanceMethod yX4_copy ∈ GW := in_t4 (i := 10) rfl rfl
theorem se_X4_copy : Cond.selects RX4 yX4_copy yX4_copy ∈ GW := in_t4 (i := 11) rfl rfl
theorem cd_X4_copy : Cond.code yX4_copy cX4_copy 5 (some .int) ∈ GW := in_t4 (i := 12) rfl rfl
theorem ml_X4_153 : Cond.methodLink RX4 153 yX4_reason ∈ GW := in_t3 (i := 215) rfl rfl
theorem im_X4_reason : Cond.instanceMethod yX4_reason ∈ GW := in_t3 (i := 217) rfl rfl
theorem se_X4_reason : Cond.selects RX4 yX4_reason yX4_reason ∈ GW := in_p2 (i := 4) rfl
theorem cd_X4_reason : Cond.code yX4_reason cX4_reason 3 (some .int) ∈ GW := in_t3 (i := 218) rfl rfl
theorem ml_X4_150 : Cond.methodLink RX4 150 yX4_copies ∈ GW := in_t3 (i := 219) rfl rfl
theorem im_X4_copies : Cond.instanceMethod yX4_copies ∈ GW := in_t3 (i := 221) rfl rfl
theorem se_X4_copies : Cond.selects RX4 yX4_copies yX4_copies ∈ GW := in_p2 (i := 5) rfl
theorem cd_X4_copies : Cond.code yX4_copies cX4_copies 6 (some .boolean) ∈ GW := in_t3 (i := 222) rfl rfl
theorem kl_X4_141 : Cond.constantLong RX4 141 (100000) ∈ GW := in_t3 (i := 227) rfl rfl
theorem ml_X4_134 : Cond.methodLink RX4 134 yX4_put ∈ GW := in_t3 (i := 223) rfl rfl
theorem im_X4_put : Cond.instanceMethod yX4_put ∈ GW := in_t3 (i := 225) rfl rfl
theorem se_X4_put : Cond.selects RX4 yX4_put yX4_put ∈ GW := in_p2 (i := 6) rfl
theorem cd_X4_put : Cond.code yX4_put cX4_put 2 none ∈ GW := in_t3 (i := 226) rfl rfl
theorem ml_X4_124 : Cond.methodLink RX4 124 yX4_signOf ∈ GW := in_t3 (i := 228) rfl rfl
theorem im_X4_signOf : Cond.instanceMethod yX4_signOf ∈ GW := in_t3 (i := 230) rfl rfl
theorem se_X4_signOf : Cond.selects RX4 yX4_signOf yX4_signOf ∈ GW := in_p2 (i := 7) rfl
theorem cd_X4_signOf : Cond.code yX4_signOf cX4_signOf 2 (some .int) ∈ GW := in_t3 (i := 231) rfl rfl
theorem kl_X4_122 : Cond.constantLong RX4 122 (2) ∈ GW := in_t3 (i := 232) rfl rfl
theorem ml_X4_143 : Cond.methodLink RX4 143 yX4_shift ∈ GW := in_t3 (i := 233) rfl rfl
theorem im_X4_shift : Cond.instanceMethod yX4_shift ∈ GW := in_t3 (i := 235) rfl rfl
theorem se_X4_shift : Cond.selects RX4 yX4_shift yX4_shift ∈ GW := in_p2 (i := 8) rfl
theorem cd_X4_shift : Cond.code yX4_shift cX4_shift 5 none ∈ GW := in_t3 (i := 236) rfl rfl
theorem ml_X4_127 : Cond.methodLink RX4 127 yX4_aim ∈ GW := in_t3 (i := 237) rfl rfl
theorem im_X4_aim : Cond.instanceMethod yX4_aim ∈ GW := in_t3 (i := 239) rfl rfl
theorem se_X4_aim : Cond.selects RX4 yX4_aim yX4_aim ∈ GW := in_p2 (i := 9) rfl
theorem cd_X4_aim : Cond.code yX4_aim cX4_aim 8 none ∈ GW := in_t4 (i := 0) rfl rfl
theorem ml_X4_147 : Cond.methodLink RX4 147 yX4_trace ∈ GW := in_t4 (i := 1) rfl rfl
theorem im_X4_trace : Cond.instanceMethod yX4_trace ∈ GW := in_t4 (i := 3) rfl rfl
theorem se_X4_trace : Cond.selects RX4 yX4_trace yX4_trace ∈ GW := in_p2 (i := 10) rfl
theorem cd_X4_trace : Cond.code yX4_trace cX4_trace 8 none ∈ GW := in_t4 (i := 4) rfl rfl
theorem ml_X4_131 : Cond.methodLink RX4 131 yX4_follow ∈ GW := in_t4 (i := 5) rfl rfl
theorem im_X4_follow : Cond.instanceMethod yX4_follow ∈ GW := in_t4 (i := 7) rfl rfl
theorem se_X4_follow : Cond.selects RX4 yX4_follow yX4_follow ∈ GW := in_p2 (i := 11) rfl
theorem cd_X4_follow : Cond.code yX4_follow cX4_follow 11 none ∈ GW := in_t4 (i := 8) rfl rfl
theorem ml_X4_156 : Cond.methodLink RX4 156 yX4_line ∈ GW := in_t4 (i := 13) rfl rfl
theorem im_X4_line : Cond.instanceMethod yX4_line ∈ GW := in_t4 (i := 15) rfl rfl
theorem se_X4_line : Cond.selects RX4 yX4_line yX4_line ∈ GW := in_p2 (i := 12) rfl
theorem cd_X4_line : Cond.code yX4_line cX4_line 6 none ∈ GW := in_t4 (i := 16) rfl rfl
theorem ml_X4_138 : Cond.methodLink RX4 138 yX4_isOnBoard ∈ GW := in_t4 (i := 17) rfl rfl
theorem im_X4_isOnBoard : Cond.instanceMethod yX4_isOnBoard ∈ GW := in_t4 (i := 19) rfl rfl
theorem se_X4_isOnBoard : Cond.selects RX4 yX4_isOnBoard yX4_isOnBoard ∈ GW := in_p2 (i := 13) rfl
theorem cd_X4_isOnBoard : Cond.code yX4_isOnBoard cX4_isOnBoard 5 (some .boolean) ∈ GW := in_t4 (i := 20) rfl rfl
theorem ml_L_53 : Cond.methodLink RL 53 yX3_why ∈ GW := in_t2 (i := 149) rfl rfl
theorem im_X3_why : Cond.instanceMethod yX3_why ∈ GW := in_t2 (i := 150) rfl rfl
theorem se_X3_why : Cond.selects RX3 yX3_why yX3_why ∈ GW := in_t2 (i := 151) rfl rfl
theorem cd_X3_why : Cond.code yX3_why cX3_why 3 (some .int) ∈ GW := in_t2 (i := 152) rfl rfl
theorem ml_L_56 : Cond.methodLink RL 56 yX4_why ∈ GW := in_t3 (i := 211) rfl rfl
theorem im_X4_why : Cond.instanceMethod yX4_why ∈ GW := in_t3 (i := 212) rfl rfl
theorem se_X4_why : Cond.selects RX4 yX4_why yX4_why ∈ GW := in_t3 (i := 213) rfl rfl
theorem cd_X4_why : Cond.code yX4_why cX4_why 2 (some .int) ∈ GW := in_t3 (i := 214) rfl rfl
theorem ml_L_57 : Cond.methodLink RL 57 yX3_drawing ∈ GW := in_t2 (i := 153) rfl rfl
theorem im_X3_drawing : Cond.instanceMethod yX3_drawing ∈ GW := in_t2 (i := 154) rfl rfl
theorem se_X3_drawing : Cond.selects RX3 yX3_drawing yX3_drawing ∈ GW := in_t2 (i := 155) rfl rfl
theorem cd_X3_drawing : Cond.code yX3_drawing cX3_drawing 4 (some .int) ∈ GW := in_t2 (i := 156) rfl rfl
theorem kc_X3_136 : Cond.constant RX3 136 (-2000000004) ∈ GW := in_t2 (i := 157) rfl rfl
theorem kf_X3_168 : Cond.constantFloat RX3 168 (1092616192) ∈ GW := in_t2 (i := 199) rfl rfl
theorem ml_X3_137 : Cond.methodLink RX3 137 yX0_originalOf ∈ GW := in_t2 (i := 158) rfl rfl
theorem im_X0_originalOf : Cond.instanceMethod yX0_originalOf ∈ GW := in_t2 (i := 159) rfl rfl
theorem se_X0_originalOf : Cond.selects RX0 yX0_originalOf yX0_originalOf ∈ GW := in_t2 (i := 160) rfl rfl
theorem cd_X0_originalOf : Cond.code yX0_originalOf cX0_originalOf 5 (some .int) ∈ GW := in_t2 (i := 161) rfl rfl
theorem ml_X0_79 : Cond.methodLink RX0 79 yX1_isCopy ∈ GW := in_t2 (i := 162) rfl rfl
theorem ml_X3_140 : Cond.methodLink RX3 140 yX0_stepsOf ∈ GW := in_t2 (i := 163) rfl rfl
theorem im_X0_stepsOf : Cond.instanceMethod yX0_stepsOf ∈ GW := in_t2 (i := 164) rfl rfl
theorem se_X0_stepsOf : Cond.selects RX0 yX0_stepsOf yX0_stepsOf ∈ GW := in_t2 (i := 165) rfl rfl
theorem cd_X0_stepsOf : Cond.code yX0_stepsOf cX0_stepsOf 5 (some .int) ∈ GW := in_t2 (i := 166) rfl rfl
theorem ml_X3_149 : Cond.methodLink RX3 149 yX1_drawnLines ∈ GW := in_t2 (i := 167) rfl rfl
theorem im_X1_drawnLines : Cond.instanceMethod yX1_drawnLines ∈ GW := in_t2 (i := 168) rfl rfl
theorem se_X1_drawnLines : Cond.selects RX1 yX1_drawnLines yX1_drawnLines ∈ GW := in_t2 (i := 169) rfl rfl
theorem cd_X1_drawnLines : Cond.code yX1_drawnLines cX1_drawnLines 3 (some .int) ∈ GW := in_t2 (i := 170) rfl rfl
theorem ml_X1_85 : Cond.methodLink RX1 85 yX1_width ∈ GW := in_t2 (i := 171) rfl rfl
theorem im_X1_width : Cond.instanceMethod yX1_width ∈ GW := in_t2 (i := 172) rfl rfl
theorem se_X1_width : Cond.selects RX1 yX1_width yX1_width ∈ GW := in_t2 (i := 173) rfl rfl
theorem cd_X1_width : Cond.code yX1_width cX1_width 2 (some .int) ∈ GW := in_t2 (i := 174) rfl rfl
theorem ml_X1_71 : Cond.methodLink RX1 71 Lib.Math.max.name ∈ GW := in_t2 (i := 175) rfl rfl
theorem st_m_Lib_Math_max_name : Cond.static Lib.Math.max.name ∈ GW := in_t2 (i := 176) rfl rfl
theorem cd_m_Lib_Math_max_name : Cond.code Lib.Math.max.name Lib.Math.max.code 2 (some .int) ∈ GW := in_t2 (i := 177) rfl rfl
theorem ml_X3_151 : Cond.methodLink RX3 151 yX1_drawnLength ∈ GW := in_t2 (i := 178) rfl rfl
theorem im_X1_drawnLength : Cond.instanceMethod yX1_drawnLength ∈ GW := in_t2 (i := 179) rfl rfl
theorem se_X1_drawnLength : Cond.selects RX1 yX1_drawnLength yX1_drawnLength ∈ GW := in_t2 (i := 180) rfl rfl
theorem cd_X1_drawnLength : Cond.code yX1_drawnLength cX1_drawnLength 3 (some .int) ∈ GW := in_t2 (i := 181) rfl rfl
theorem ml_X1_88 : Cond.methodLink RX1 88 yX1_lineLength ∈ GW := in_t2 (i := 182) rfl rfl
theorem ml_X3_153 : Cond.methodLink RX3 153 yX1_greatestWidth ∈ GW := in_t2 (i := 183) rfl rfl
theorem im_X1_greatestWidth : Cond.instanceMethod yX1_greatestWidth ∈ GW := in_t2 (i := 184) rfl rfl
theorem se_X1_greatestWidth : Cond.selects RX1 yX1_greatestWidth yX1_greatestWidth ∈ GW := in_t2 (i := 185) rfl rfl
theorem cd_X1_greatestWidth : Cond.code yX1_greatestWidth cX1_greatestWidth 3 (some .int) ∈ GW := in_t2 (i := 186) rfl rfl
theorem ml_X3_156 : Cond.methodLink RX3 156 yX0_pointsOffBoard ∈ GW := in_t2 (i := 187) rfl rfl
theorem im_X0_pointsOffBoard : Cond.instanceMethod yX0_pointsOffBoard ∈ GW := in_t2 (i := 188) rfl rfl
theorem se_X0_pointsOffBoard : Cond.selects RX0 yX0_pointsOffBoard yX0_pointsOffBoard ∈ GW := in_t2 (i := 189) rfl rfl
theorem cd_X0_pointsOffBoard : Cond.code yX0_pointsOffBoard cX0_pointsOffBoard 4 (some .int) ∈ GW := in_t2 (i := 190) rfl rfl
theorem ml_X3_160 : Cond.methodLink RX3 160 yX1_ratioAsFloat ∈ GW := in_t2 (i := 191) rfl rfl
theorem im_X1_ratioAsFloat : Cond.instanceMethod yX1_ratioAsFloat ∈ GW := in_t2 (i := 192) rfl rfl
theorem se_X1_ratioAsFloat : Cond.selects RX1 yX1_ratioAsFloat yX1_ratioAsFloat ∈ GW := in_t2 (i := 193) rfl rfl
theorem cd_X1_ratioAsFloat : Cond.code yX1_ratioAsFloat cX1_ratioAsFloat 5 (some .float) ∈ GW := in_t2 (i := 194) rfl rfl
theorem ml_X3_164 : Cond.methodLink RX3 164 yX3_floatBits ∈ GW := in_t2 (i := 195) rfl rfl
theorem st_X3_floatBits : Cond.static yX3_floatBits ∈ GW := in_t2 (i := 196) rfl rfl
theorem cd_X3_floatBits : Cond.code yX3_floatBits cX3_floatBits 4 (some .int) ∈ GW := in_t2 (i := 197) rfl rfl
theorem kf_X3_245 : Cond.constantFloat RX3 245 (1258291200) ∈ GW := in_t2 (i := 198) rfl rfl
theorem ml_L_60 : Cond.methodLink RL 60 yX4_drawing ∈ GW := in_t4 (i := 21) rfl rfl
theorem im_X4_drawing : Cond.instanceMethod yX4_drawing ∈ GW := in_t4 (i := 22) rfl rfl
theorem se_X4_drawing : Cond.selects RX4 yX4_drawing yX4_drawing ∈ GW := in_t4 (i := 23) rfl rfl
theorem cd_X4_drawing : Cond.code yX4_drawing cX4_drawing 3 (some .int) ∈ GW := in_t4 (i := 24) rfl rfl
theorem ml_X4_184 : Cond.methodLink RX4 184 yX4_drawingOf ∈ GW := in_t4 (i := 25) rfl rfl
theorem im_X4_drawingOf : Cond.instanceMethod yX4_drawingOf ∈ GW := in_t4 (i := 27) rfl rfl
theorem se_X4_drawingOf : Cond.selects RX4 yX4_drawingOf yX4_drawingOf ∈ GW := in_p2 (i := 14) rfl
theorem cd_X4_drawingOf : Cond.code yX4_drawingOf cX4_drawingOf 3 (some .int) ∈ GW := in_t4 (i := 28) rfl rfl
theorem kc_X4_160 : Cond.constant RX4 160 (-2000000004) ∈ GW := in_t4 (i := 29) rfl rfl
theorem kf_X4_180 : Cond.constantFloat RX4 180 (1092616192) ∈ GW := in_t4 (i := 56) rfl rfl
theorem ml_X4_161 : Cond.methodLink RX4 161 yX4_root ∈ GW := in_t4 (i := 30) rfl rfl
theorem im_X4_root : Cond.instanceMethod yX4_root ∈ GW := in_t4 (i := 32) rfl rfl
theorem se_X4_root : Cond.selects RX4 yX4_root yX4_root ∈ GW := in_p2 (i := 15) rfl
theorem cd_X4_root : Cond.code yX4_root cX4_root 3 (some .int) ∈ GW := in_t4 (i := 33) rfl rfl
theorem ml_X4_164 : Cond.methodLink RX4 164 yX4_steps ∈ GW := in_t4 (i := 34) rfl rfl
theorem im_X4_steps : Cond.instanceMethod yX4_steps ∈ GW := in_t4 (i := 36) rfl rfl
theorem se_X4_steps : Cond.selects RX4 yX4_steps yX4_steps ∈ GW := in_p3 (i := 0) rfl
theorem cd_X4_steps : Cond.code yX4_steps cX4_steps 4 (some .int) ∈ GW := in_t4 (i := 37) rfl rfl
theorem ml_X4_167 : Cond.methodLink RX4 167 yX4_offBoard ∈ GW := in_t4 (i := 38) rfl rfl
theorem im_X4_offBoard : Cond.instanceMethod yX4_offBoard ∈ GW := in_t4 (i := 40) rfl rfl
theorem se_X4_offBoard : Cond.selects RX4 yX4_offBoard yX4_offBoard ∈ GW := in_p3 (i := 1) rfl
theorem cd_X4_offBoard : Cond.code yX4_offBoard cX4_offBoard 4 (some .int) ∈ GW := in_t4 (i := 41) rfl rfl
theorem ml_X4_170 : Cond.methodLink RX4 170 yX4_ratioOf ∈ GW := in_t4 (i := 42) rfl rfl
theorem im_X4_ratioOf : Cond.instanceMethod yX4_ratioOf ∈ GW := in_t4 (i := 44) rfl rfl
theorem se_X4_ratioOf : Cond.selects RX4 yX4_ratioOf yX4_ratioOf ∈ GW := in_p3 (i := 2) rfl
theorem cd_X4_ratioOf : Cond.code yX4_ratioOf cX4_ratioOf 2 (some .float) ∈ GW := in_t4 (i := 45) rfl rfl
theorem ml_X4_174 : Cond.methodLink RX4 174 yJxf58ca_floatToIntBits_5c35a ∈ GW := in_t4 (i := 46) rfl rfl
theorem st_Jxf58ca_floatToIntBits_5c35a : Cond.static yJxf58ca_floatToIntBits_5c35a ∈ GW := in_t4 (i := 47) rfl rfl
theorem ini_Jxf58ca : Cond.initialized RJxf58ca ∈ GW := in_t1 (i := 7) rfl rfl
theorem cd_Jxf58ca_floatToIntBits_5c35a : Cond.code yJxf58ca_floatToIntBits_5c35a cJxf58ca_floatToIntBits_5c35a 1 (some .int) ∈ GW := in_t4 (i := 48) rfl rfl
theorem ml_Jxf58ca_74 : Cond.methodLink RJxf58ca 74 ⟨"java/lang/Float", "floatToRawIntBits", "(F)I"⟩ ∈ GW := in_t4 (i := 52) rfl rfl
theorem nat_raw_floatToRawIntBits : Cond.native ⟨"java/lang/Float", "floatToRawIntBits", "(F)I"⟩ ∈ GW := in_t4 (i := 54) rfl rfl
theorem st_raw_floatToRawIntBits : Cond.static ⟨"java/lang/Float", "floatToRawIntBits", "(F)I"⟩ ∈ GW := in_t4 (i := 53) rfl rfl
theorem ini_java_lang_Float : Cond.initialized "java/lang/Float" ∈ GW := in_t1 (i := 7) rfl rfl
theorem kc_Jxf58ca_77 : Cond.constant RJxf58ca 77 (2143289344) ∈ GW := in_t4 (i := 55) rfl rfl
theorem ml_Jxf58ca_59 : Cond.methodLink RJxf58ca 59 yJxf58ca_isNaN_12338 ∈ GW := in_t4 (i := 49) rfl rfl
theorem st_Jxf58ca_isNaN_12338 : Cond.static yJxf58ca_isNaN_12338 ∈ GW := in_t4 (i := 50) rfl rfl
theorem cd_Jxf58ca_isNaN_12338 : Cond.code yJxf58ca_isNaN_12338 cJxf58ca_isNaN_12338 1 (some .boolean) ∈ GW := in_t4 (i := 51) rfl rfl
theorem ml_X4_181 : Cond.methodLink RX4 181 yX4_lines ∈ GW := in_t4 (i := 57) rfl rfl
theorem im_X4_lines : Cond.instanceMethod yX4_lines ∈ GW := in_t4 (i := 59) rfl rfl
theorem se_X4_lines : Cond.selects RX4 yX4_lines yX4_lines ∈ GW := in_p3 (i := 3) rfl
theorem cd_X4_lines : Cond.code yX4_lines cX4_lines 8 (some .int) ∈ GW := in_t4 (i := 60) rfl rfl
theorem ml_L_61 : Cond.methodLink RL 61 yX3_ratio ∈ GW := in_t2 (i := 200) rfl rfl
theorem im_X3_ratio : Cond.instanceMethod yX3_ratio ∈ GW := in_t2 (i := 201) rfl rfl
theorem se_X3_ratio : Cond.selects RX3 yX3_ratio yX3_ratio ∈ GW := in_t2 (i := 202) rfl rfl
theorem cd_X3_ratio : Cond.code yX3_ratio cX3_ratio 4 (some .int) ∈ GW := in_t2 (i := 203) rfl rfl
theorem ml_X3_176 : Cond.methodLink RX3 176 yX3_lowest ∈ GW := in_t2 (i := 204) rfl rfl
theorem ml_L_64 : Cond.methodLink RL 64 yX4_ratio ∈ GW := in_t4 (i := 61) rfl rfl
theorem im_X4_ratio : Cond.instanceMethod yX4_ratio ∈ GW := in_t4 (i := 62) rfl rfl
theorem se_X4_ratio : Cond.selects RX4 yX4_ratio yX4_ratio ∈ GW := in_t4 (i := 63) rfl rfl
theorem cd_X4_ratio : Cond.code yX4_ratio cX4_ratio 3 (some .int) ∈ GW := in_t4 (i := 64) rfl rfl
theorem ml_L_65 : Cond.methodLink RL 65 yX3_pointInfo ∈ GW := in_t2 (i := 205) rfl rfl
theorem im_X3_pointInfo : Cond.instanceMethod yX3_pointInfo ∈ GW := in_t2 (i := 206) rfl rfl
theorem se_X3_pointInfo : Cond.selects RX3 yX3_pointInfo yX3_pointInfo ∈ GW := in_t2 (i := 207) rfl rfl
theorem cd_X3_pointInfo : Cond.code yX3_pointInfo cX3_pointInfo 5 (some .long) ∈ GW := in_t2 (i := 208) rfl rfl
theorem kl_X3_183 : Cond.constantLong RX3 183 (-2000000001) ∈ GW := in_t2 (i := 210) rfl rfl
theorem ml_X3_180 : Cond.methodLink RX3 180 yX1_has ∈ GW := in_t2 (i := 209) rfl rfl
theorem ml_X3_185 : Cond.methodLink RX3 185 yX1_x ∈ GW := in_t2 (i := 211) rfl rfl
theorem ml_X3_189 : Cond.methodLink RX3 189 yX1_y ∈ GW := in_t2 (i := 212) rfl rfl
theorem ml_X3_192 : Cond.methodLink RX3 192 yX1_isJoined ∈ GW := in_t2 (i := 213) rfl rfl
theorem ml_X3_195 : Cond.methodLink RX3 195 yX1_width ∈ GW := in_t2 (i := 214) rfl rfl
theorem ml_X3_198 : Cond.methodLink RX3 198 yX1_lineLength ∈ GW := in_t2 (i := 215) rfl rfl
theorem ml_L_69 : Cond.methodLink RL 69 yX4_pointInfo ∈ GW := in_t4 (i := 65) rfl rfl
theorem im_X4_pointInfo : Cond.instanceMethod yX4_pointInfo ∈ GW := in_t4 (i := 66) rfl rfl
theorem se_X4_pointInfo : Cond.selects RX4 yX4_pointInfo yX4_pointInfo ∈ GW := in_t4 (i := 67) rfl rfl
theorem cd_X4_pointInfo : Cond.code yX4_pointInfo cX4_pointInfo 4 (some .long) ∈ GW := in_t4 (i := 68) rfl rfl
theorem kl_X4_190 : Cond.constantLong RX4 190 (-2000000001) ∈ GW := in_t4 (i := 73) rfl rfl
theorem ml_X4_187 : Cond.methodLink RX4 187 yX4_isPoint ∈ GW := in_t4 (i := 69) rfl rfl
theorem im_X4_isPoint : Cond.instanceMethod yX4_isPoint ∈ GW := in_t4 (i := 71) rfl rfl
theorem se_X4_isPoint : Cond.selects RX4 yX4_isPoint yX4_isPoint ∈ GW := in_p3 (i := 4) rfl
theorem cd_X4_isPoint : Cond.code yX4_isPoint cX4_isPoint 3 (some .boolean) ∈ GW := in_t4 (i := 72) rfl rfl
theorem ml_L_70 : Cond.methodLink RL 70 yX3_atOnce ∈ GW := in_t2 (i := 216) rfl rfl
theorem im_X3_atOnce : Cond.instanceMethod yX3_atOnce ∈ GW := in_t2 (i := 217) rfl rfl
theorem se_X3_atOnce : Cond.selects RX3 yX3_atOnce yX3_atOnce ∈ GW := in_t2 (i := 218) rfl rfl
theorem cd_X3_atOnce : Cond.code yX3_atOnce cX3_atOnce 6 (some .long) ∈ GW := in_t2 (i := 219) rfl rfl
theorem ml_X3_201 : Cond.methodLink RX3 201 yX1_xAtOnce ∈ GW := in_t2 (i := 220) rfl rfl
theorem im_X1_xAtOnce : Cond.instanceMethod yX1_xAtOnce ∈ GW := in_t2 (i := 221) rfl rfl
theorem se_X1_xAtOnce : Cond.selects RX1 yX1_xAtOnce yX1_xAtOnce ∈ GW := in_t2 (i := 222) rfl rfl
theorem cd_X1_xAtOnce : Cond.code yX1_xAtOnce cX1_xAtOnce 3 (some .long) ∈ GW := in_t2 (i := 223) rfl rfl
theorem ml_X3_205 : Cond.methodLink RX3 205 yX1_yAtOnce ∈ GW := in_t2 (i := 224) rfl rfl
theorem im_X1_yAtOnce : Cond.instanceMethod yX1_yAtOnce ∈ GW := in_t2 (i := 225) rfl rfl
theorem se_X1_yAtOnce : Cond.selects RX1 yX1_yAtOnce yX1_yAtOnce ∈ GW := in_t2 (i := 226) rfl rfl
theorem cd_X1_yAtOnce : Cond.code yX1_yAtOnce cX1_yAtOnce 3 (some .long) ∈ GW := in_t2 (i := 227) rfl rfl
theorem ml_L_73 : Cond.methodLink RL 73 yX4_atOnce ∈ GW := in_t4 (i := 74) rfl rfl
theorem im_X4_atOnce : Cond.instanceMethod yX4_atOnce ∈ GW := in_t4 (i := 75) rfl rfl
theorem se_X4_atOnce : Cond.selects RX4 yX4_atOnce yX4_atOnce ∈ GW := in_t4 (i := 76) rfl rfl
theorem cd_X4_atOnce : Cond.code yX4_atOnce cX4_atOnce 10 (some .long) ∈ GW := in_t4 (i := 77) rfl rfl
theorem ml_L_74 : Cond.methodLink RL 74 yX3_alike ∈ GW := in_t2 (i := 228) rfl rfl
theorem im_X3_alike : Cond.instanceMethod yX3_alike ∈ GW := in_t2 (i := 229) rfl rfl
theorem se_X3_alike : Cond.selects RX3 yX3_alike yX3_alike ∈ GW := in_t2 (i := 230) rfl rfl
theorem cd_X3_alike : Cond.code yX3_alike cX3_alike 7 (some .int) ∈ GW := in_t2 (i := 231) rfl rfl
theorem ml_L_77 : Cond.methodLink RL 77 yX4_alike ∈ GW := in_t4 (i := 78) rfl rfl
theorem im_X4_alike : Cond.instanceMethod yX4_alike ∈ GW := in_t4 (i := 79) rfl rfl
theorem se_X4_alike : Cond.selects RX4 yX4_alike yX4_alike ∈ GW := in_t4 (i := 80) rfl rfl
theorem cd_X4_alike : Cond.code yX4_alike cX4_alike 7 (some .int) ∈ GW := in_t4 (i := 81) rfl rfl
theorem ml_L_78 : Cond.methodLink RL 78 yX3_armFor ∈ GW := in_t2 (i := 232) rfl rfl
theorem im_X3_armFor : Cond.instanceMethod yX3_armFor ∈ GW := in_t2 (i := 233) rfl rfl
theorem se_X3_armFor : Cond.selects RX3 yX3_armFor yX3_armFor ∈ GW := in_t2 (i := 234) rfl rfl
theorem cd_X3_armFor : Cond.code yX3_armFor cX3_armFor 13 (some .int) ∈ GW := in_t2 (i := 235) rfl rfl
theorem kl_X3_208 : Cond.constantLong RX3 208 (20) ∈ GW := in_t2 (i := 236) rfl rfl
theorem kl_X3_210 : Cond.constantLong RX3 210 (100) ∈ GW := in_t2 (i := 237) rfl rfl
theorem ml_L_81 : Cond.methodLink RL 81 yX4_armFor ∈ GW := in_t4 (i := 82) rfl rfl
theorem im_X4_armFor : Cond.instanceMethod yX4_armFor ∈ GW := in_t4 (i := 83) rfl rfl
theorem se_X4_armFor : Cond.selects RX4 yX4_armFor yX4_armFor ∈ GW := in_t4 (i := 84) rfl rfl
theorem cd_X4_armFor : Cond.code yX4_armFor cX4_armFor 5 (some .int) ∈ GW := in_t4 (i := 85) rfl rfl
theorem kl_X4_192 : Cond.constantLong RX4 192 (20) ∈ GW := in_t4 (i := 86) rfl rfl
theorem ml_L_82 : Cond.methodLink RL 82 yX3_undo ∈ GW := in_t2 (i := 238) rfl rfl
theorem im_X3_undo : Cond.instanceMethod yX3_undo ∈ GW := in_t2 (i := 239) rfl rfl
theorem se_X3_undo : Cond.selects RX3 yX3_undo yX3_undo ∈ GW := in_t3 (i := 0) rfl rfl
theorem cd_X3_undo : Cond.code yX3_undo cX3_undo 3 (some .int) ∈ GW := in_t3 (i := 1) rfl rfl
theorem ml_L_85 : Cond.methodLink RL 85 yX4_undo ∈ GW := in_t4 (i := 87) rfl rfl
theorem im_X4_undo : Cond.instanceMethod yX4_undo ∈ GW := in_t4 (i := 88) rfl rfl
theorem se_X4_undo : Cond.selects RX4 yX4_undo yX4_undo ∈ GW := in_t4 (i := 89) rfl rfl
theorem cd_X4_undo : Cond.code yX4_undo cX4_undo 1 (some .int) ∈ GW := in_t4 (i := 90) rfl rfl
theorem ml_L_86 : Cond.methodLink RL 86 yX3_type ∈ GW := in_t3 (i := 2) rfl rfl
theorem im_X3_type : Cond.instanceMethod yX3_type ∈ GW := in_t3 (i := 3) rfl rfl
theorem se_X3_type : Cond.selects RX3 yX3_type yX3_type ∈ GW := in_t3 (i := 4) rfl rfl
theorem cd_X3_type : Cond.code yX3_type cX3_type 2 (some .int) ∈ GW := in_t3 (i := 5) rfl rfl
theorem ml_X3_212 : Cond.methodLink RX3 212 yX2_append ∈ GW := in_t3 (i := 6) rfl rfl
theorem im_X2_append : Cond.instanceMethod yX2_append ∈ GW := in_t3 (i := 7) rfl rfl
theorem se_X2_append : Cond.selects RX2 yX2_append yX2_append ∈ GW := in_t3 (i := 8) rfl rfl
theorem cd_X2_append : Cond.code yX2_append cX2_append 2 (some .boolean) ∈ GW := in_t3 (i := 9) rfl rfl
theorem ml_L_89 : Cond.methodLink RL 89 yX4_type ∈ GW := in_t4 (i := 91) rfl rfl
theorem im_X4_type : Cond.instanceMethod yX4_type ∈ GW := in_t4 (i := 92) rfl rfl
theorem se_X4_type : Cond.selects RX4 yX4_type yX4_type ∈ GW := in_t4 (i := 93) rfl rfl
theorem cd_X4_type : Cond.code yX4_type cX4_type 2 (some .int) ∈ GW := in_t4 (i := 94) rfl rfl
theorem ml_L_90 : Cond.methodLink RL 90 yX3_clearText ∈ GW := in_t3 (i := 10) rfl rfl
theorem im_X3_clearText : Cond.instanceMethod yX3_clearText ∈ GW := in_t3 (i := 11) rfl rfl
theorem se_X3_clearText : Cond.selects RX3 yX3_clearText yX3_clearText ∈ GW := in_t3 (i := 12) rfl rfl
theorem cd_X3_clearText : Cond.code yX3_clearText cX3_clearText 2 (some .int) ∈ GW := in_t3 (i := 13) rfl rfl
theorem ml_L_93 : Cond.methodLink RL 93 yX4_clearText ∈ GW := in_t4 (i := 95) rfl rfl
theorem im_X4_clearText : Cond.instanceMethod yX4_clearText ∈ GW := in_t4 (i := 96) rfl rfl
theorem se_X4_clearText : Cond.selects RX4 yX4_clearText yX4_clearText ∈ GW := in_t4 (i := 97) rfl rfl
theorem cd_X4_clearText : Cond.code yX4_clearText cX4_clearText 2 (some .int) ∈ GW := in_t4 (i := 98) rfl rfl
theorem ml_L_94 : Cond.methodLink RL 94 yX3_fault ∈ GW := in_t3 (i := 14) rfl rfl
theorem im_X3_fault : Cond.instanceMethod yX3_fault ∈ GW := in_t3 (i := 15) rfl rfl
theorem se_X3_fault : Cond.selects RX3 yX3_fault yX3_fault ∈ GW := in_t3 (i := 16) rfl rfl
theorem cd_X3_fault : Cond.code yX3_fault cX3_fault 2 (some .int) ∈ GW := in_t3 (i := 17) rfl rfl
theorem ml_X3_216 : Cond.methodLink RX3 216 yX2_parse ∈ GW := in_t3 (i := 18) rfl rfl
theorem im_X2_parse : Cond.instanceMethod yX2_parse ∈ GW := in_t3 (i := 19) rfl rfl
theorem se_X2_parse : Cond.selects RX2 yX2_parse yX2_parse ∈ GW := in_t3 (i := 20) rfl rfl
theorem cd_X2_parse : Cond.code yX2_parse cX2_parse 4 (some .int) ∈ GW := in_t3 (i := 21) rfl rfl
theorem ml_X2_42 : Cond.methodLink RX2 42 yX2_parsePoint ∈ GW := in_t3 (i := 22) rfl rfl
theorem im_X2_parsePoint : Cond.instanceMethod yX2_parsePoint ∈ GW := in_t3 (i := 24) rfl rfl
theorem se_X2_parsePoint : Cond.selects RX2 yX2_parsePoint yX2_parsePoint ∈ GW := in_p1 (i := 2) rfl
theorem cd_X2_parsePoint : Cond.code yX2_parsePoint cX2_parsePoint 4 none ∈ GW := in_t3 (i := 25) rfl rfl
theorem ml_X2_46 : Cond.methodLink RX2 46 yX2_here ∈ GW := in_t3 (i := 26) rfl rfl
theorem im_X2_here : Cond.instanceMethod yX2_here ∈ GW := in_t3 (i := 28) rfl rfl
theorem se_X2_here : Cond.selects RX2 yX2_here yX2_here ∈ GW := in_p1 (i := 3) rfl
theorem cd_X2_here : Cond.code yX2_here cX2_here 1 (some .char) ∈ GW := in_t3 (i := 29) rfl rfl
theorem ml_X2_61 : Cond.methodLink RX2 61 yX2_isDigit ∈ GW := in_t3 (i := 30) rfl rfl
theorem st_X2_isDigit : Cond.static yX2_isDigit ∈ GW := in_t3 (i := 31) rfl rfl
theorem cd_X2_isDigit : Cond.code yX2_isDigit cX2_isDigit 1 (some .boolean) ∈ GW := in_t3 (i := 32) rfl rfl
theorem ml_X2_64 : Cond.methodLink RX2 64 yX2_fail ∈ GW := in_t3 (i := 33) rfl rfl
theorem im_X2_fail : Cond.instanceMethod yX2_fail ∈ GW := in_t3 (i := 35) rfl rfl
theorem se_X2_fail : Cond.selects RX2 yX2_fail yX2_fail ∈ GW := in_p1 (i := 4) rfl
theorem cd_X2_fail : Cond.code yX2_fail cX2_fail 3 none ∈ GW := in_t3 (i := 36) rfl rfl
theorem ml_X2_68 : Cond.methodLink RX2 68 yX2_parseNumber ∈ GW := in_t3 (i := 37) rfl rfl
theorem im_X2_parseNumber : Cond.instanceMethod yX2_parseNumber ∈ GW := in_t3 (i := 39) rfl rfl
theorem se_X2_parseNumber : Cond.selects RX2 yX2_parseNumber yX2_parseNumber ∈ GW := in_p1 (i := 5) rfl
theorem cd_X2_parseNumber : Cond.code yX2_parseNumber cX2_parseNumber 4 (some .int) ∈ GW := in_t3 (i := 40) rfl rfl
theorem ml_X2_58 : Cond.methodLink RX2 58 yX2_failHere ∈ GW := in_t3 (i := 41) rfl rfl
theorem im_X2_failHere : Cond.instanceMethod yX2_failHere ∈ GW := in_t3 (i := 43) rfl rfl
theorem se_X2_failHere : Cond.selects RX2 yX2_failHere yX2_failHere ∈ GW := in_p1 (i := 6) rfl
theorem cd_X2_failHere : Cond.code yX2_failHere cX2_failHere 1 none ∈ GW := in_t3 (i := 44) rfl rfl
theorem ml_X2_54 : Cond.methodLink RX2 54 yX2_expect ∈ GW := in_t3 (i := 45) rfl rfl
theorem im_X2_expect : Cond.instanceMethod yX2_expect ∈ GW := in_t3 (i := 47) rfl rfl
theorem se_X2_expect : Cond.selects RX2 yX2_expect yX2_expect ∈ GW := in_p1 (i := 7) rfl
theorem cd_X2_expect : Cond.code yX2_expect cX2_expect 2 none ∈ GW := in_t3 (i := 48) rfl rfl
theorem ml_X2_50 : Cond.methodLink RX2 50 yX2_accept ∈ GW := in_t3 (i := 49) rfl rfl
theorem im_X2_accept : Cond.instanceMethod yX2_accept ∈ GW := in_t3 (i := 51) rfl rfl
theorem se_X2_accept : Cond.selects RX2 yX2_accept yX2_accept ∈ GW := in_p1 (i := 8) rfl
theorem cd_X2_accept : Cond.code yX2_accept cX2_accept 2 (some .boolean) ∈ GW := in_t3 (i := 52) rfl rfl
theorem ml_L_97 : Cond.methodLink RL 97 yX4_fault ∈ GW := in_t4 (i := 99) rfl rfl
theorem im_X4_fault : Cond.instanceMethod yX4_fault ∈ GW := in_t4 (i := 100) rfl rfl
theorem se_X4_fault : Cond.selects RX4 yX4_fault yX4_fault ∈ GW := in_t4 (i := 101) rfl rfl
theorem cd_X4_fault : Cond.code yX4_fault cX4_fault 2 (some .int) ∈ GW := in_t4 (i := 102) rfl rfl
theorem fl_X4_194 : Cond.fieldLink RX4 194 "PantographArmModel" "at" "I" ∈ GW := in_t3 (i := 78) rfl rfl
theorem fl_X4_197 : Cond.fieldLink RX4 197 "PantographArmModel" "faultReason" "I" ∈ GW := in_t3 (i := 79) rfl rfl
theorem ml_X4_215 : Cond.methodLink RX4 215 yX4_readText ∈ GW := in_t4 (i := 103) rfl rfl
theorem im_X4_readText : Cond.instanceMethod yX4_readText ∈ GW := in_t4 (i := 105) rfl rfl
theorem se_X4_readText : Cond.selects RX4 yX4_readText yX4_readText ∈ GW := in_p3 (i := 5) rfl
theorem cd_X4_readText : Cond.code yX4_readText cX4_readText 6 (some .int) ∈ GW := in_t4 (i := 106) rfl rfl
theorem ml_X4_212 : Cond.methodLink RX4 212 yX4_readPoint ∈ GW := in_t4 (i := 107) rfl rfl
theorem im_X4_readPoint : Cond.instanceMethod yX4_readPoint ∈ GW := in_t4 (i := 109) rfl rfl
theorem se_X4_readPoint : Cond.selects RX4 yX4_readPoint yX4_readPoint ∈ GW := in_p3 (i := 6) rfl
theorem cd_X4_readPoint : Cond.code yX4_readPoint cX4_readPoint 4 (some .boolean) ∈ GW := in_t4 (i := 110) rfl rfl
theorem fl_X4_200 : Cond.fieldLink RX4 200 "PantographArmModel" "number" "I" ∈ GW := in_t3 (i := 80) rfl rfl
theorem ml_X4_203 : Cond.methodLink RX4 203 yX4_here ∈ GW := in_t4 (i := 111) rfl rfl
theorem im_X4_here : Cond.instanceMethod yX4_here ∈ GW := in_t4 (i := 113) rfl rfl
theorem se_X4_here : Cond.selects RX4 yX4_here yX4_here ∈ GW := in_p3 (i := 7) rfl
theorem cd_X4_here : Cond.code yX4_here cX4_here 1 (some .int) ∈ GW := in_t4 (i := 114) rfl rfl
theorem ml_X4_209 : Cond.methodLink RX4 209 yX4_readNumber ∈ GW := in_t4 (i := 115) rfl rfl
theorem im_X4_readNumber : Cond.instanceMethod yX4_readNumber ∈ GW := in_t4 (i := 117) rfl rfl
theorem se_X4_readNumber : Cond.selects RX4 yX4_readNumber yX4_readNumber ∈ GW := in_p3 (i := 8) rfl
theorem cd_X4_readNumber : Cond.code yX4_readNumber cX4_readNumber 2 (some .boolean) ∈ GW := in_t4 (i := 118) rfl rfl
theorem ml_X4_206 : Cond.methodLink RX4 206 yX4_isFault ∈ GW := in_t4 (i := 119) rfl rfl
theorem im_X4_isFault : Cond.instanceMethod yX4_isFault ∈ GW := in_t4 (i := 121) rfl rfl
theorem se_X4_isFault : Cond.selects RX4 yX4_isFault yX4_isFault ∈ GW := in_p3 (i := 9) rfl
theorem cd_X4_isFault : Cond.code yX4_isFault cX4_isFault 1 (some .boolean) ∈ GW := in_t4 (i := 122) rfl rfl
theorem ml_L_98 : Cond.methodLink RL 98 yX3_read ∈ GW := in_t3 (i := 53) rfl rfl
theorem im_X3_read : Cond.instanceMethod yX3_read ∈ GW := in_t3 (i := 54) rfl rfl
theorem se_X3_read : Cond.selects RX3 yX3_read yX3_read ∈ GW := in_t3 (i := 55) rfl rfl
theorem cd_X3_read : Cond.code yX3_read cX3_read 3 (some .int) ∈ GW := in_t3 (i := 56) rfl rfl
theorem ml_X3_225 : Cond.methodLink RX3 225 yX2_addPointsTo ∈ GW := in_t3 (i := 57) rfl rfl
theorem im_X2_addPointsTo : Cond.instanceMethod yX2_addPointsTo ∈ GW := in_t3 (i := 58) rfl rfl
theorem se_X2_addPointsTo : Cond.selects RX2 yX2_addPointsTo yX2_addPointsTo ∈ GW := in_t3 (i := 59) rfl rfl
theorem cd_X2_addPointsTo : Cond.code yX2_addPointsTo cX2_addPointsTo 3 none ∈ GW := in_t3 (i := 60) rfl rfl
theorem ml_X2_72 : Cond.methodLink RX2 72 yX1_add ∈ GW := in_t3 (i := 61) rfl rfl
theorem ml_L_101 : Cond.methodLink RL 101 yX4_read ∈ GW := in_t4 (i := 123) rfl rfl
theorem im_X4_read : Cond.instanceMethod yX4_read ∈ GW := in_t4 (i := 124) rfl rfl
theorem se_X4_read : Cond.selects RX4 yX4_read yX4_read ∈ GW := in_t4 (i := 125) rfl rfl
theorem cd_X4_read : Cond.code yX4_read cX4_read 4 (some .int) ∈ GW := in_t4 (i := 126) rfl rfl
theorem uf_X0_0 : u_lay RX0 TX0 0 ∈ GW := in_t1 (i := 103) rfl rfl
theorem uf_X0_1 : u_lay RX0 TX0 1 ∈ GW := in_t1 (i := 105) rfl rfl
theorem uf_X0_2 : u_lay RX0 TX0 2 ∈ GW := in_t1 (i := 107) rfl rfl
theorem uf_X0_3 : u_lay RX0 TX0 3 ∈ GW := in_t1 (i := 109) rfl rfl
theorem uf_X0_4 : u_lay RX0 TX0 4 ∈ GW := in_t1 (i := 111) rfl rfl
theorem uf_X0_5 : u_lay RX0 TX0 5 ∈ GW := in_t1 (i := 113) rfl rfl
theorem uf_X0_6 : u_lay RX0 TX0 6 ∈ GW := in_t1 (i := 115) rfl rfl
theorem uf_X0_7 : u_lay RX0 TX0 7 ∈ GW := in_t1 (i := 117) rfl rfl
theorem uf_X0_8 : u_lay RX0 TX0 8 ∈ GW := in_t1 (i := 119) rfl rfl
theorem uf_X0_9 : u_lay RX0 TX0 9 ∈ GW := in_t1 (i := 121) rfl rfl
theorem uf_X0_10 : u_lay RX0 TX0 10 ∈ GW := in_t1 (i := 123) rfl rfl
theorem uf_X0_11 : u_lay RX0 TX0 11 ∈ GW := in_t1 (i := 125) rfl rfl
theorem inGX0 : ∀ w ∈ u_ws RX0 TX0 12, w ∈ GW := by
  intro w h
  obtain ⟨k, hk, rfl⟩ := List.mem_map.mp h
  have hk := List.mem_range.mp hk
  rcases (show k = 0 ∨ k = 1 ∨ k = 2 ∨ k = 3 ∨ k = 4 ∨ k = 5 ∨ k = 6 ∨ k = 7 ∨ k = 8 ∨ k = 9 ∨ k = 10 ∨ k = 11 by omega) with rfl | rfl | rfl | rfl | rfl | rfl | rfl | rfl | rfl | rfl | rfl | rfl
  · exact uf_X0_0
  · exact uf_X0_1
  · exact uf_X0_2
  · exact uf_X0_3
  · exact uf_X0_4
  · exact uf_X0_5
  · exact uf_X0_6
  · exact uf_X0_7
  · exact uf_X0_8
  · exact uf_X0_9
  · exact uf_X0_10
  · exact uf_X0_11
theorem uf_X1_0 : u_lay RX1 TX1 0 ∈ GW := in_t1 (i := 56) rfl rfl
theorem uf_X1_1 : u_lay RX1 TX1 1 ∈ GW := in_t1 (i := 58) rfl rfl
theorem uf_X1_2 : u_lay RX1 TX1 2 ∈ GW := in_t1 (i := 60) rfl rfl
theorem uf_X1_3 : u_lay RX1 TX1 3 ∈ GW := in_t1 (i := 62) rfl rfl
theorem uf_X1_4 : u_lay RX1 TX1 4 ∈ GW := in_t1 (i := 64) rfl rfl
theorem uf_X1_5 : u_lay RX1 TX1 5 ∈ GW := in_t1 (i := 66) rfl rfl
theorem uf_X1_6 : u_lay RX1 TX1 6 ∈ GW := in_t1 (i := 68) rfl rfl
theorem uf_X1_7 : u_lay RX1 TX1 7 ∈ GW := in_t1 (i := 70) rfl rfl
theorem uf_X1_8 : u_lay RX1 TX1 8 ∈ GW := in_t1 (i := 72) rfl rfl
theorem uf_X1_9 : u_lay RX1 TX1 9 ∈ GW := in_t1 (i := 74) rfl rfl
theorem uf_X1_10 : u_lay RX1 TX1 10 ∈ GW := in_t1 (i := 76) rfl rfl
theorem inGX1 : ∀ w ∈ u_ws RX1 TX1 11, w ∈ GW := by
  intro w h
  obtain ⟨k, hk, rfl⟩ := List.mem_map.mp h
  have hk := List.mem_range.mp hk
  rcases (show k = 0 ∨ k = 1 ∨ k = 2 ∨ k = 3 ∨ k = 4 ∨ k = 5 ∨ k = 6 ∨ k = 7 ∨ k = 8 ∨ k = 9 ∨ k = 10 by omega) with rfl | rfl | rfl | rfl | rfl | rfl | rfl | rfl | rfl | rfl | rfl
  · exact uf_X1_0
  · exact uf_X1_1
  · exact uf_X1_2
  · exact uf_X1_3
  · exact uf_X1_4
  · exact uf_X1_5
  · exact uf_X1_6
  · exact uf_X1_7
  · exact uf_X1_8
  · exact uf_X1_9
  · exact uf_X1_10
theorem uf_X2_0 : u_lay RX2 TX2 0 ∈ GW := in_t1 (i := 147) rfl rfl
theorem uf_X2_1 : u_lay RX2 TX2 1 ∈ GW := in_t1 (i := 149) rfl rfl
theorem uf_X2_2 : u_lay RX2 TX2 2 ∈ GW := in_t1 (i := 151) rfl rfl
theorem uf_X2_3 : u_lay RX2 TX2 3 ∈ GW := in_t1 (i := 153) rfl rfl
theorem uf_X2_4 : u_lay RX2 TX2 4 ∈ GW := in_t1 (i := 155) rfl rfl
theorem uf_X2_5 : u_lay RX2 TX2 5 ∈ GW := in_t1 (i := 157) rfl rfl
theorem uf_X2_6 : u_lay RX2 TX2 6 ∈ GW := in_t1 (i := 159) rfl rfl
theorem uf_X2_7 : u_lay RX2 TX2 7 ∈ GW := in_t1 (i := 161) rfl rfl
theorem uf_X2_8 : u_lay RX2 TX2 8 ∈ GW := in_t1 (i := 163) rfl rfl
theorem inGX2 : ∀ w ∈ u_ws RX2 TX2 9, w ∈ GW := by
  intro w h
  obtain ⟨k, hk, rfl⟩ := List.mem_map.mp h
  have hk := List.mem_range.mp hk
  rcases (show k = 0 ∨ k = 1 ∨ k = 2 ∨ k = 3 ∨ k = 4 ∨ k = 5 ∨ k = 6 ∨ k = 7 ∨ k = 8 by omega) with rfl | rfl | rfl | rfl | rfl | rfl | rfl | rfl | rfl
  · exact uf_X2_0
  · exact uf_X2_1
  · exact uf_X2_2
  · exact uf_X2_3
  · exact uf_X2_4
  · exact uf_X2_5
  · exact uf_X2_6
  · exact uf_X2_7
  · exact uf_X2_8
theorem uf_X3_0 : u_lay RX3 TX3 0 ∈ GW := in_t1 (i := 172) rfl rfl
theorem uf_X3_1 : u_lay RX3 TX3 1 ∈ GW := in_t1 (i := 174) rfl rfl
theorem uf_X3_2 : u_lay RX3 TX3 2 ∈ GW := in_t1 (i := 176) rfl rfl
theorem uf_X3_3 : u_lay RX3 TX3 3 ∈ GW := in_t1 (i := 178) rfl rfl
theorem inGX3 : ∀ w ∈ u_ws RX3 TX3 4, w ∈ GW := by
  intro w h
  obtain ⟨k, hk, rfl⟩ := List.mem_map.mp h
  have hk := List.mem_range.mp hk
  rcases (show k = 0 ∨ k = 1 ∨ k = 2 ∨ k = 3 by omega) with rfl | rfl | rfl | rfl
  · exact uf_X3_0
  · exact uf_X3_1
  · exact uf_X3_2
  · exact uf_X3_3
theorem uf_X4_0 : u_lay RX4 TX4 0 ∈ GW := in_t3 (i := 82) rfl rfl
theorem uf_X4_1 : u_lay RX4 TX4 1 ∈ GW := in_t3 (i := 84) rfl rfl
theorem uf_X4_2 : u_lay RX4 TX4 2 ∈ GW := in_t3 (i := 86) rfl rfl
theorem uf_X4_3 : u_lay RX4 TX4 3 ∈ GW := in_t3 (i := 88) rfl rfl
theorem uf_X4_4 : u_lay RX4 TX4 4 ∈ GW := in_t3 (i := 90) rfl rfl
theorem uf_X4_5 : u_lay RX4 TX4 5 ∈ GW := in_t3 (i := 92) rfl rfl
theorem uf_X4_6 : u_lay RX4 TX4 6 ∈ GW := in_t3 (i := 94) rfl rfl
theorem uf_X4_7 : u_lay RX4 TX4 7 ∈ GW := in_t3 (i := 96) rfl rfl
theorem uf_X4_8 : u_lay RX4 TX4 8 ∈ GW := in_t3 (i := 98) rfl rfl
theorem uf_X4_9 : u_lay RX4 TX4 9 ∈ GW := in_t3 (i := 100) rfl rfl
theorem uf_X4_10 : u_lay RX4 TX4 10 ∈ GW := in_t3 (i := 102) rfl rfl
theorem uf_X4_11 : u_lay RX4 TX4 11 ∈ GW := in_t3 (i := 104) rfl rfl
theorem inGX4 : ∀ w ∈ u_ws RX4 TX4 12, w ∈ GW := by
  intro w h
  obtain ⟨k, hk, rfl⟩ := List.mem_map.mp h
  have hk := List.mem_range.mp hk
  rcases (show k = 0 ∨ k = 1 ∨ k = 2 ∨ k = 3 ∨ k = 4 ∨ k = 5 ∨ k = 6 ∨ k = 7 ∨ k = 8 ∨ k = 9 ∨ k = 10 ∨ k = 11 by omega) with rfl | rfl | rfl | rfl | rfl | rfl | rfl | rfl | rfl | rfl | rfl | rfl
  · exact uf_X4_0
  · exact uf_X4_1
  · exact uf_X4_2
  · exact uf_X4_3
  · exact uf_X4_4
  · exact uf_X4_5
  · exact uf_X4_6
  · exact uf_X4_7
  · exact uf_X4_8
  · exact uf_X4_9
  · exact uf_X4_10
  · exact uf_X4_11
end
section
/-! a heap as functions: kinds and final references (T), ints, longs and references that change (V); E: class data, array classes, the base address, the static arrays -/
abbrev classes : List vw_C := [(RX0, TX0, 12), (RX1, TX1, 11), (RX2, TX2, 9), (RX3, TX3, 4), (RX4, TX4, 12)]
abbrev kd : Type := (Nat × Nat) ⊕ Nat
abbrev gT : Type := Nat × ((Nat → Option kd) × (Nat → Nat → Option Nat))
abbrev gV : Type := (Nat → Nat → Int32) × ((Nat → Nat → Int64) × (Nat → Nat → Option Nat))
abbrev gE : Type := va_G × ((Nat → ClassId) × (Nat × (Nat → Nat)))
abbrev gB (E : gE) : Nat := E.2.2.1
def aty (t : Nat) : FieldType := match t with
  | 0 => .int
  | 1 => .long
  | 2 => .object RX1
  | 3 => .object RX0
  | 4 => .char
  | _ => .boolean
def tyl (E : gE) : List (ClassId × FieldType) := [(E.2.1 0, .int), (E.2.1 1, .long), (E.2.1 2, .object RX1), (E.2.1 3, .object RX0), (E.2.1 4, .char), (E.2.1 5, .boolean)]
def arrv (V : gV) (a : Nat) (t : Nat) : (Nat → Int32) ⊕ (Nat → Int64) ⊕ (Nat → UInt32) ⊕ (Nat → UInt64) ⊕ (Nat → Option Nat) := match t with
  | 0 => .inl (V.1 a)
  | 1 => .inr (.inl (V.2.1 a))
  | 2 => .inr (.inr (.inr (.inr (V.2.2 a))))
  | 3 => .inr (.inr (.inr (.inr (V.2.2 a))))
  | _ => .inl (V.1 a)
def flds (T : gT) (V : gV) (a : Nat) (ci : Nat) : List Value := match ci with
  | 0 => [.int (V.1 a 0), .int (V.1 a 1), .int (V.1 a 2), .int (V.1 a 3), va_rf (T.2.2 a 4), .int (V.1 a 5), .int (V.1 a 6), .int (V.1 a 7), .int (V.1 a 8), .int (V.1 a 9), va_rf (T.2.2 a 10), .int (V.1 a 11)]
  | 1 => [.int (V.1 a 0), .long (V.2.1 a 1), .long (V.2.1 a 2), .int (V.1 a 3), .int (V.1 a 4), .long (V.2.1 a 5), .long (V.2.1 a 6), .int (V.1 a 7), va_rf (T.2.2 a 8), va_rf (T.2.2 a 9), va_rf (T.2.2 a 10)]
  | 2 => [va_rf (T.2.2 a 0), .int (V.1 a 1), .int (V.1 a 2), .int (V.1 a 3), .int (V.1 a 4), va_rf (T.2.2 a 5), va_rf (T.2.2 a 6), va_rf (T.2.2 a 7), .int (V.1 a 8)]
  | 3 => [va_rf (V.2.2 a 0), va_rf (T.2.2 a 1), .int (V.1 a 2), va_rf (T.2.2 a 3)]
  | _ => [va_rf (T.2.2 a 0), va_rf (T.2.2 a 1), va_rf (T.2.2 a 2), .int (V.1 a 3), va_rf (T.2.2 a 4), .int (V.1 a 5), .long (V.2.1 a 6), .long (V.2.1 a 7), .int (V.1 a 8), .int (V.1 a 9), .int (V.1 a 10), va_rf (T.2.2 a 11)]
def ent (E : gE) (T : gT) (V : gV) (a : Nat) (k : kd) : va_E := match k with
  | .inl q => .inl (E.2.1 q.1, q.2, arrv V a q.1)
  | .inr ci => .inr (ci, flds T V a ci)
def Rep (E : gE) (T : gT) (V : gV) (H : Heap) : Prop := T.1 = H.size ∧ ∀ (a : Nat) (k : kd), T.2.1 a = some k → gB E ≤ a ∧ va_at E.1 classes (a, ent E T V a k) H
abbrev gA (E : gE) : Nat → Prop := fun q => gB E ≤ q
def leastv (j : Nat) : Int32 := if j = 2 then 10 else if j = 3 then 10 else if j = 4 then 1 else 0
def mostv (j : Nat) : Int32 := if j = 0 then 2 else if j = 1 then 50 else 1000
def firstv (j : Nat) : Int32 := if j = 2 then 1000 else if j = 3 then 1000 else if j = 4 then 100 else 0
def Stc (E : gE) (U : State) (H : Heap) : Prop :=
  (va_Z "PantographArm" "LEAST_SETTING" "[I" (.ref (E.2.2.2 0)) (gA E) U H ∧ va_X (E.2.2.2 0) 5 leastv U H ∧ E.2.2.2 0 < gB E) ∧
  (va_Z "PantographArm" "MOST_SETTING" "[I" (.ref (E.2.2.2 1)) (gA E) U H ∧ va_X (E.2.2.2 1) 5 mostv U H ∧ E.2.2.2 1 < gB E) ∧
  (va_Z "PantographArm" "FIRST_SETTING" "[I" (.ref (E.2.2.2 2)) (gA E) U H ∧ va_X (E.2.2.2 2) 5 firstv U H ∧ E.2.2.2 2 < gB E)
def RepS (E : gE) (T : gT) (V : gV) (U : State) : Prop := Rep E T V U.heap ∧ gB E ≤ U.heap.size ∧ va_K E.1 classes (tyl E) U ∧ Stc E U U.heap ∧ va_AO RX0 U ∧ va_AO RX1 U
theorem Stc.moved {E : gE} {u U : State} {H H1 : Heap} (hvm : u.vm.Alike U.vm) (h : Stc E u H) (hz : gB E ≤ H.size) (hq : ∀ a : Nat, a < H.size → ¬ gA E a → H1[a]? = H[a]?) : Stc E U H1 := by
  have key : ∀ b : Nat, b < gB E → H1[b]? = H[b]? := fun b hb => hq b (Nat.lt_of_lt_of_le hb hz) (Nat.not_le.mpr hb)
  obtain ⟨⟨a1, a2, a3⟩, ⟨b1, b2, b3⟩, c1, c2, c3⟩ := h
  exact ⟨⟨(a1.kept hq).moved hvm, (a2.kept (key _ a3)).moved hvm, a3⟩, ⟨(b1.kept hq).moved hvm, (b2.kept (key _ b3)).moved hvm, b3⟩, (c1.kept hq).moved hvm, (c2.kept (key _ c3)).moved hvm, c3⟩
theorem Stc.calling {E : gE} {U : State} {H : Heap} {g : JFrame} {mk : MethodId} {a : Array Value} (h : Stc E U H) : Stc E (U.calling g mk a) H := by
  obtain ⟨⟨a1, a2, a3⟩, ⟨b1, b2, b3⟩, c1, c2, c3⟩ := h
  have e : U.vm.Alike (U.calling g mk a).vm := Vm.Alike.refl U.vm
  exact ⟨⟨a1.moved e, a2.moved e, a3⟩, ⟨b1.moved e, b2.moved e, b3⟩, c1.moved e, c2.moved e, c3⟩
theorem RepS.blind {E : gE} {T : gT} {V : gV} {av : List Value} : FrameBlind (va_Pc av (RepS E T V)) := by
  intro a U g mk h
  obtain ⟨h0, h1, h2, h3, h4, h5, h6⟩ := h
  have e : U.vm.Alike (U.calling g mk a).vm := Vm.Alike.refl U.vm
  exact ⟨h0, h1, h2, va_K.moved (u := U) (U := U.calling g mk a) e h3, h4.calling, h5.moved e, h6.moved e⟩
/-- what a method knows of its start, the whole way -/
def Cx (E : gE) (p : Program) (s : State) (m : MethodId) (args : Array Value) (meth : Method) (c : Code) (own : String) (cc : ByteArray) (nL : Nat) (ret : Option FieldType) : Prop :=
  p.tables.exec = Jvm.exec ∧ c.code = cc ∧ c.maxLocals = nL ∧ s.vm.findClass own = some m.cls ∧ (∀ w ∈ GW, w.before args s = true) ∧ meth.locks = false ∧ va_K E.1 classes (tyl E) s ∧ Stc E s s.heap ∧ va_AO RX0 s ∧ va_AO RX1 s ∧ gB E ≤ s.heap.size ∧ meth.sig.returnType = ret
section CXS
variable {E : gE} {p : Program} {s : State} {m : MethodId} {args : Array Value} {meth : Method} {c : Code} {own : String} {cc : ByteArray} {nL : Nat} {ret : Option FieldType}
theorem Cx.x (C : Cx E p s m args meth c own cc nL ret) : p.tables.exec = Jvm.exec := C.1
theorem Cx.b (C : Cx E p s m args meth c own cc nL ret) : c.code = cc := C.2.1
theorem Cx.ml (C : Cx E p s m args meth c own cc nL ret) : c.maxLocals = nL := C.2.2.1
theorem Cx.ow (C : Cx E p s m args meth c own cc nL ret) : s.vm.findClass own = some m.cls := C.2.2.2.1
theorem Cx.ts (C : Cx E p s m args meth c own cc nL ret) : ∀ w ∈ GW, w.before args s = true := C.2.2.2.2.1
theorem Cx.lk (C : Cx E p s m args meth c own cc nL ret) : meth.locks = false := C.2.2.2.2.2.1
theorem Cx.K (C : Cx E p s m args meth c own cc nL ret) : va_K E.1 classes (tyl E) s := C.2.2.2.2.2.2.1
theorem Cx.st (C : Cx E p s m args meth c own cc nL ret) : Stc E s s.heap := C.2.2.2.2.2.2.2.1
theorem Cx.ao0 (C : Cx E p s m args meth c own cc nL ret) : va_AO RX0 s := C.2.2.2.2.2.2.2.2.1
theorem Cx.ao1 (C : Cx E p s m args meth c own cc nL ret) : va_AO RX1 s := C.2.2.2.2.2.2.2.2.2.1
theorem Cx.bs (C : Cx E p s m args meth c own cc nL ret) : gB E ≤ s.heap.size := C.2.2.2.2.2.2.2.2.2.2.1
theorem Cx.re (C : Cx E p s m args meth c own cc nL ret) : meth.sig.returnType = ret := C.2.2.2.2.2.2.2.2.2.2.2
theorem Cx.out {T : gT} {V : gV} {H : Heap} {locs : List Loc} (C : Cx E p s m args meth c own cc nL ret) (hS : va_S (gA E) s.heap H locs) (hR : Rep E T V H) {t : State} (ht : t.heap = H) (hvm : s.vm.Alike t.vm) : RepS E T V t := by
  refine ⟨by rw [ht]; exact hR, by rw [ht]; exact Nat.le_trans C.bs hS.1, va_K.moved hvm C.K, ?_, C.ao0.moved hvm, C.ao1.moved hvm⟩
  rw [ht]
  exact C.st.moved hvm C.bs (fun a h1 h2 => hS.2.1 a h1 h2)
end CXS
/-- the walk stands at pc, with these locals and this stack, over a heap that the functions describe -/
def KW (E : gE) (T : gT) (V : gV) (p : Program) (l : Launch) (e : Env) (R : Room) (s : State) (m : MethodId) (args : Array Value) (below : List Frame) (meth : Method) (c : Code) (nL k n : Nat) (Q : State → Prop) (pc : Nat) (L : List (Nat × Value)) (st : List Value) : Prop :=
  ∀ (H : Heap) (ls : Array Slot) (locs : List Loc), Rep E T V H → va_S (gA E) s.heap H locs → lv_has ls nL L → W p l e R s m args below meth c H locs k n Q (F0 m pc ls st)
/-- what is known of a class of ours -/
def CI (ci : Nat) (Cn : String) (Tt : u_T) (N : Nat) (ty : Nat → FieldType) : Prop := classes[ci]? = some (Cn, Tt, N) ∧ (∀ w ∈ u_ws Cn Tt N, w ∈ GW) ∧ (∀ k, k < N → parseFieldDescriptor (Tt k).2.2.1 = some (ty k)) ∧ (∀ a, a < N → ∀ b, b < N → a ≠ b → (Tt a).2.1 ≠ (Tt b).2.1) ∧ ∀ (T : gT) (V : gV) (a : Nat), (flds T V a ci).length = N
theorem ci_X0 : CI 0 RX0 TX0 12 tyX0 := ⟨rfl, inGX0, tyX0_ok, nmX0, fun _ _ _ => rfl⟩
theorem ci_X1 : CI 1 RX1 TX1 11 tyX1 := ⟨rfl, inGX1, tyX1_ok, nmX1, fun _ _ _ => rfl⟩
theorem ci_X2 : CI 2 RX2 TX2 9 tyX2 := ⟨rfl, inGX2, tyX2_ok, nmX2, fun _ _ _ => rfl⟩
theorem ci_X3 : CI 3 RX3 TX3 4 tyX3 := ⟨rfl, inGX3, tyX3_ok, nmX3, fun _ _ _ => rfl⟩
theorem ci_X4 : CI 4 RX4 TX4 12 tyX4 := ⟨rfl, inGX4, tyX4_ok, nmX4, fun _ _ _ => rfl⟩
def tO (T : gT) (a ci : Nat) : Prop := T.2.1 a = some (.inr ci)
def tA (T : gT) (a t n : Nat) : Prop := T.2.1 a = some (.inl (t, n))
def tF (T : gT) (a k b : Nat) : Prop := T.2.2 a k = some b
/-- one place written -/
def wI (V : gV) (a k : Nat) (x : Int32) : gV := (fun b => if b = a then upd (V.1 a) k x else V.1 b, V.2)
def wL (V : gV) (a k : Nat) (x : Int64) : gV := (V.1, (fun b => if b = a then vp_updL (V.2.1 a) k x else V.2.1 b, V.2.2))
def wR (V : gV) (a k : Nat) (x : Option Nat) : gV := (V.1, (V.2.1, fun b => if b = a then va_up (V.2.2 a) k x else V.2.2 b))
theorem ent_congr {E : gE} {T : gT} {V V' : gV} {b : Nat} {k : kd} (h1 : V'.1 b = V.1 b) (h2 : V'.2.1 b = V.2.1 b) (h3 : V'.2.2 b = V.2.2 b) : ent E T V' b k = ent E T V b k := by
  cases k with
  | inl q => simp only [ent, arrv, h1, h2, h3]
  | inr ci => simp only [ent, flds, h1, h2, h3]
theorem Rep.put {E : gE} {T : gT} {V V' : gV} {H H1 : Heap} {a : Nat} (hR : Rep E T V H) (z : H1.size = H.size) (oq : ∀ q : Nat, q ≠ a → H1[q]? = H[q]?)
    (hs : ∀ b : Nat, b ≠ a → V'.1 b = V.1 b ∧ V'.2.1 b = V.2.1 b ∧ V'.2.2 b = V.2.2 b) (ha : ∀ k, T.2.1 a = some k → va_at E.1 classes (a, ent E T V' a k) H1) : Rep E T V' H1 := by
  refine ⟨hR.1.trans z.symm, fun b k hk => ?_⟩
  obtain ⟨h1, h2⟩ := hR.2 b k hk
  refine ⟨h1, ?_⟩
  by_cases e : b = a
  · subst e
    exact ha k hk
  · obtain ⟨e1, e2, e3⟩ := hs b e
    rw [ent_congr e1 e2 e3]
    exact h2.kept (oq b e)
theorem wI_off {V : gV} {a k : Nat} {x : Int32} : ∀ b : Nat, b ≠ a → (wI V a k x).1 b = V.1 b ∧ (wI V a k x).2.1 b = V.2.1 b ∧ (wI V a k x).2.2 b = V.2.2 b := fun b h => ⟨if_neg h, rfl, rfl⟩
theorem wL_off {V : gV} {a k : Nat} {x : Int64} : ∀ b : Nat, b ≠ a → (wL V a k x).1 b = V.1 b ∧ (wL V a k x).2.1 b = V.2.1 b ∧ (wL V a k x).2.2 b = V.2.2 b := fun b h => ⟨rfl, if_neg h, rfl⟩
theorem wR_off {V : gV} {a k : Nat} {x : Option Nat} : ∀ b : Nat, b ≠ a → (wR V a k x).1 b = V.1 b ∧ (wR V a k x).2.1 b = V.2.1 b ∧ (wR V a k x).2.2 b = V.2.2 b := fun b h => ⟨rfl, rfl, if_neg h⟩
section KWS
variable {E : gE} {T : gT} {V : gV} {p : Program} {l : Launch} {e : Env} {R : Room} {s : State} {m : MethodId} {args : Array Value} {below : List Frame} {meth : Method} {c : Code} {own : String} {cc : ByteArray} {nL : Nat} {ret : Option FieldType} {k n : Nat} {Q : State → Prop} {L : List (Nat × Value)} {st : List Value}

theorem k_iadd (pc q : Nat) (C : Cx E p s m args meth c own cc nL ret) {x y : Int32} (hd : decode cc pc = .ok (.iadd, 1)) (hq : pc + 1 = q)  (K : KW E T V p l e R s m args below meth c nL k n Q q L (.int (x + y) :: st)) : KW E T V p l e R s m args below meth c nL k n Q pc L (.int y :: .int x :: st) := by
  subst hq
  intro H ls locs hR hS hl
  exact lv_iadd C.x C.b hd (K H ls locs hR hS hl)
theorem k_isub (pc q : Nat) (C : Cx E p s m args meth c own cc nL ret) {x y : Int32} (hd : decode cc pc = .ok (.isub, 1)) (hq : pc + 1 = q)  (K : KW E T V p l e R s m args below meth c nL k n Q q L (.int (x - y) :: st)) : KW E T V p l e R s m args below meth c nL k n Q pc L (.int y :: .int x :: st) := by
  subst hq
  intro H ls locs hR hS hl
  exact lv_isub C.x C.b hd (K H ls locs hR hS hl)
theorem k_imul (pc q : Nat) (C : Cx E p s m args meth c own cc nL ret) {x y : Int32} (hd : decode cc pc = .ok (.imul, 1)) (hq : pc + 1 = q)  (K : KW E T V p l e R s m args below meth c nL k n Q q L (.int (x * y) :: st)) : KW E T V p l e R s m args below meth c nL k n Q pc L (.int y :: .int x :: st) := by
  subst hq
  intro H ls locs hR hS hl
  exact lv_imul C.x C.b hd (K H ls locs hR hS hl)
theorem k_iand (pc q : Nat) (C : Cx E p s m args meth c own cc nL ret) {x y : Int32} (hd : decode cc pc = .ok (.iand, 1)) (hq : pc + 1 = q)  (K : KW E T V p l e R s m args below meth c nL k n Q q L (.int (x &&& y) :: st)) : KW E T V p l e R s m args below meth c nL k n Q pc L (.int y :: .int x :: st) := by
  subst hq
  intro H ls locs hR hS hl
  exact lv_iand C.x C.b hd (K H ls locs hR hS hl)
theorem k_ishl (pc q : Nat) (C : Cx E p s m args meth c own cc nL ret) {x y : Int32} (hd : decode cc pc = .ok (.ishl, 1)) (hq : pc + 1 = q)  (K : KW E T V p l e R s m args below meth c nL k n Q q L (.int (x <<< (y &&& 31)) :: st)) : KW E T V p l e R s m args below meth c nL k n Q pc L (.int y :: .int x :: st) := by
  subst hq
  intro H ls locs hR hS hl
  exact lv_ishl C.x C.b hd (K H ls locs hR hS hl)
theorem k_idiv (pc q : Nat) (C : Cx E p s m args meth c own cc nL ret) {x y : Int32} (hd : decode cc pc = .ok (.idiv, 1)) (hq : pc + 1 = q) (hne : ¬ y = 0) (K : KW E T V p l e R s m args below meth c nL k n Q q L (.int (x / y) :: st)) : KW E T V p l e R s m args below meth c nL k n Q pc L (.int y :: .int x :: st) := by
  subst hq
  intro H ls locs hR hS hl
  exact lv_idiv C.x C.b hd hne (K H ls locs hR hS hl)
theorem k_irem (pc q : Nat) (C : Cx E p s m args meth c own cc nL ret) {x y : Int32} (hd : decode cc pc = .ok (.irem, 1)) (hq : pc + 1 = q) (hne : ¬ y = 0) (K : KW E T V p l e R s m args below meth c nL k n Q q L (.int (x - x / y * y) :: st)) : KW E T V p l e R s m args below meth c nL k n Q pc L (.int y :: .int x :: st) := by
  subst hq
  intro H ls locs hR hS hl
  exact lv_irem C.x C.b hd hne (K H ls locs hR hS hl)
theorem k_ladd (pc q : Nat) (C : Cx E p s m args meth c own cc nL ret) {x y : Int64} (hd : decode cc pc = .ok (.ladd, 1)) (hq : pc + 1 = q)  (K : KW E T V p l e R s m args below meth c nL k n Q q L (.long (x + y) :: st)) : KW E T V p l e R s m args below meth c nL k n Q pc L (.long y :: .long x :: st) := by
  subst hq
  intro H ls locs hR hS hl
  exact lv_ladd C.x C.b hd (K H ls locs hR hS hl)
theorem k_lsub (pc q : Nat) (C : Cx E p s m args meth c own cc nL ret) {x y : Int64} (hd : decode cc pc = .ok (.lsub, 1)) (hq : pc + 1 = q)  (K : KW E T V p l e R s m args below meth c nL k n Q q L (.long (x - y) :: st)) : KW E T V p l e R s m args below meth c nL k n Q pc L (.long y :: .long x :: st) := by
  subst hq
  intro H ls locs hR hS hl
  exact lv_lsub C.x C.b hd (K H ls locs hR hS hl)
theorem k_lmul (pc q : Nat) (C : Cx E p s m args meth c own cc nL ret) {x y : Int64} (hd : decode cc pc = .ok (.lmul, 1)) (hq : pc + 1 = q)  (K : KW E T V p l e R s m args below meth c nL k n Q q L (.long (x * y) :: st)) : KW E T V p l e R s m args below meth c nL k n Q pc L (.long y :: .long x :: st) := by
  subst hq
  intro H ls locs hR hS hl
  exact lv_lmul C.x C.b hd (K H ls locs hR hS hl)
theorem k_ldiv (pc q : Nat) (C : Cx E p s m args meth c own cc nL ret) {x y : Int64} (hd : decode cc pc = .ok (.ldiv, 1)) (hq : pc + 1 = q) (hne : ¬ y = 0) (K : KW E T V p l e R s m args below meth c nL k n Q q L (.long (x / y) :: st)) : KW E T V p l e R s m args below meth c nL k n Q pc L (.long y :: .long x :: st) := by
  subst hq
  intro H ls locs hR hS hl
  exact lv_ldiv C.x C.b hd hne (K H ls locs hR hS hl)
theorem k_lrem (pc q : Nat) (C : Cx E p s m args meth c own cc nL ret) {x y : Int64} (hd : decode cc pc = .ok (.lrem, 1)) (hq : pc + 1 = q) (hne : ¬ y = 0) (K : KW E T V p l e R s m args below meth c nL k n Q q L (.long (x - x / y * y) :: st)) : KW E T V p l e R s m args below meth c nL k n Q pc L (.long y :: .long x :: st) := by
  subst hq
  intro H ls locs hR hS hl
  exact lv_lrem C.x C.b hd hne (K H ls locs hR hS hl)
theorem k_lneg (pc q : Nat) (C : Cx E p s m args meth c own cc nL ret) {x : Int64} (hd : decode cc pc = .ok (.lneg, 1)) (hq : pc + 1 = q)  (K : KW E T V p l e R s m args below meth c nL k n Q q L (.long (-x) :: st)) : KW E T V p l e R s m args below meth c nL k n Q pc L (.long x :: st) := by
  subst hq
  intro H ls locs hR hS hl
  exact lv_lneg C.x C.b hd (K H ls locs hR hS hl)
theorem k_i2l (pc q : Nat) (C : Cx E p s m args meth c own cc nL ret) {x : Int32} (hd : decode cc pc = .ok (.i2l, 1)) (hq : pc + 1 = q)  (K : KW E T V p l e R s m args below meth c nL k n Q q L (.long x.toInt64 :: st)) : KW E T V p l e R s m args below meth c nL k n Q pc L (.int x :: st) := by
  subst hq
  intro H ls locs hR hS hl
  exact lv_i2l C.x C.b hd rfl (K H ls locs hR hS hl)
theorem k_l2i (pc q : Nat) (C : Cx E p s m args meth c own cc nL ret) {x : Int64} (hd : decode cc pc = .ok (.l2i, 1)) (hq : pc + 1 = q)  (K : KW E T V p l e R s m args below meth c nL k n Q q L (.int x.toInt32 :: st)) : KW E T V p l e R s m args below meth c nL k n Q pc L (.long x :: st) := by
  subst hq
  intro H ls locs hR hS hl
  exact lv_l2i C.x C.b hd rfl (K H ls locs hR hS hl)
theorem k_l2f (pc q : Nat) (C : Cx E p s m args meth c own cc nL ret) {x : Int64} (hd : decode cc pc = .ok (.l2f, 1)) (hq : pc + 1 = q)  (K : KW E T V p l e R s m args below meth c nL k n Q q L (.float (FP.l2f x) :: st)) : KW E T V p l e R s m args below meth c nL k n Q pc L (.long x :: st) := by
  subst hq
  intro H ls locs hR hS hl
  exact lv_l2f C.x C.b hd (K H ls locs hR hS hl)
theorem k_f2i (pc q : Nat) (C : Cx E p s m args meth c own cc nL ret) {x : UInt32} (hd : decode cc pc = .ok (.f2i, 1)) (hq : pc + 1 = q)  (K : KW E T V p l e R s m args below meth c nL k n Q q L (.int (FP.f2i x) :: st)) : KW E T V p l e R s m args below meth c nL k n Q pc L (.float x :: st) := by
  subst hq
  intro H ls locs hR hS hl
  exact lv_f2i C.x C.b hd (K H ls locs hR hS hl)
theorem k_i2c (pc q : Nat) (C : Cx E p s m args meth c own cc nL ret) {x : Int32} (hd : decode cc pc = .ok (.i2c, 1)) (hq : pc + 1 = q)  (K : KW E T V p l e R s m args below meth c nL k n Q q L (.int (x.toUInt32 % 65536).toInt32 :: st)) : KW E T V p l e R s m args below meth c nL k n Q pc L (.int x :: st) := by
  subst hq
  intro H ls locs hR hS hl
  exact lv_i2c C.x C.b hd rfl (K H ls locs hR hS hl)
theorem k_fdiv (pc q : Nat) (C : Cx E p s m args meth c own cc nL ret) {x y : UInt32} (hd : decode cc pc = .ok (.fdiv, 1)) (hq : pc + 1 = q) (hne : vf_n32 (FP.fdiv x y)) (K : KW E T V p l e R s m args below meth c nL k n Q q L (.float (FP.fdiv x y) :: st)) : KW E T V p l e R s m args below meth c nL k n Q pc L (.float y :: .float x :: st) := by
  subst hq
  intro H ls locs hR hS hl
  exact lv_fdiv C.x C.b hd hne (K H ls locs hR hS hl)
theorem k_fmul (pc q : Nat) (C : Cx E p s m args meth c own cc nL ret) {x y : UInt32} (hd : decode cc pc = .ok (.fmul, 1)) (hq : pc + 1 = q) (hne : vf_n32 (FP.fmul x y)) (K : KW E T V p l e R s m args below meth c nL k n Q q L (.float (FP.fmul x y) :: st)) : KW E T V p l e R s m args below meth c nL k n Q pc L (.float y :: .float x :: st) := by
  subst hq
  intro H ls locs hR hS hl
  exact lv_fmul C.x C.b hd hne (K H ls locs hR hS hl)
theorem k_fsub (pc q : Nat) (C : Cx E p s m args meth c own cc nL ret) {x y : UInt32} (hd : decode cc pc = .ok (.fsub, 1)) (hq : pc + 1 = q) (hne : vf_n32 (FP.fsub x y)) (K : KW E T V p l e R s m args below meth c nL k n Q q L (.float (FP.fsub x y) :: st)) : KW E T V p l e R s m args below meth c nL k n Q pc L (.float y :: .float x :: st) := by
  subst hq
  intro H ls locs hR hS hl
  exact lv_fsub C.x C.b hd hne (K H ls locs hR hS hl)
theorem k_fcmp (pc q : Nat) (C : Cx E p s m args meth c own cc nL ret) {x y : UInt32} {op : CmpOp} (hd : decode cc pc = .ok (.fcmp op, 1)) (hq : pc + 1 = q)  (K : KW E T V p l e R s m args below meth c nL k n Q q L (.int (Op.cmpValue (FP.fcmp x y) op) :: st)) : KW E T V p l e R s m args below meth c nL k n Q pc L (.float y :: .float x :: st) := by
  subst hq
  intro H ls locs hR hS hl
  exact lv_fcmp C.x C.b hd (K H ls locs hR hS hl)
theorem k_lcmp (pc q : Nat) (C : Cx E p s m args meth c own cc nL ret) {x y : Int64} (hd : decode cc pc = .ok (.lcmp, 1)) (hq : pc + 1 = q)  (K : KW E T V p l e R s m args below meth c nL k n Q q L (.int (lg_cmp x y) :: st)) : KW E T V p l e R s m args below meth c nL k n Q pc L (.long y :: .long x :: st) := by
  subst hq
  intro H ls locs hR hS hl
  exact W.lcmp C.x C.b hd (K H ls locs hR hS hl)
theorem k_dup (pc q : Nat) (C : Cx E p s m args meth c own cc nL ret) {v : Value} (hd : decode cc pc = .ok (.dup, 1)) (hq : pc + 1 = q) (hc : v.category = 1) (K : KW E T V p l e R s m args below meth c nL k n Q q L (v :: v :: st)) : KW E T V p l e R s m args below meth c nL k n Q pc L (v :: st) := by
  subst hq
  intro H ls locs hR hS hl
  exact lv_dup C.x C.b hd hc (K H ls locs hR hS hl)
theorem k_dup2 (pc q : Nat) (C : Cx E p s m args meth c own cc nL ret) {v w : Value} (hd : decode cc pc = .ok (.dup2, 1)) (hq : pc + 1 = q) (hc : v.category = 1) (hc2 : w.category = 1) (K : KW E T V p l e R s m args below meth c nL k n Q q L (v :: w :: v :: w :: st)) : KW E T V p l e R s m args below meth c nL k n Q pc L (v :: w :: st) := by
  subst hq
  intro H ls locs hR hS hl
  exact lv_dup2_11 C.x C.b hd hc hc2 (K H ls locs hR hS hl)
theorem k_iconst (pc q : Nat) (C : Cx E p s m args meth c own cc nL ret) {z : Int} {v : Int32} (hd : decode cc pc = .ok (.iconst z, 1)) (hq : pc + 1 = q) (hv : Int32.ofInt z = v) (K : KW E T V p l e R s m args below meth c nL k n Q q L (.int v :: st)) : KW E T V p l e R s m args below meth c nL k n Q pc L (st) := by
  subst hq
  intro H ls locs hR hS hl
  exact lv_iconst C.x C.b hd hv (K H ls locs hR hS hl)
theorem k_bipush (pc q : Nat) (C : Cx E p s m args meth c own cc nL ret) {z : Int} {v : Int32} (hd : decode cc pc = .ok (.bipush z, 2)) (hq : pc + 2 = q) (hv : (Int8.ofInt z).toInt32 = v) (K : KW E T V p l e R s m args below meth c nL k n Q q L (.int v :: st)) : KW E T V p l e R s m args below meth c nL k n Q pc L (st) := by
  subst hq
  intro H ls locs hR hS hl
  exact lv_bipush C.x C.b hd hv (K H ls locs hR hS hl)
theorem k_sipush (pc q : Nat) (C : Cx E p s m args meth c own cc nL ret) {z : Int} {v : Int32} (hd : decode cc pc = .ok (.sipush z, 3)) (hq : pc + 3 = q) (hv : (Int16.ofInt z).toInt32 = v) (K : KW E T V p l e R s m args below meth c nL k n Q q L (.int v :: st)) : KW E T V p l e R s m args below meth c nL k n Q pc L (st) := by
  subst hq
  intro H ls locs hR hS hl
  exact lv_sipush C.x C.b hd hv (K H ls locs hR hS hl)
theorem k_lconst (pc q : Nat) (C : Cx E p s m args meth c own cc nL ret) {z : Fin 2} {v : Int64} (hd : decode cc pc = .ok (.lconst z, 1)) (hq : pc + 1 = q) (hv : Int64.ofNat (z : Nat) = v) (K : KW E T V p l e R s m args below meth c nL k n Q q L (.long v :: st)) : KW E T V p l e R s m args below meth c nL k n Q pc L (st) := by
  subst hq
  intro H ls locs hR hS hl
  exact lv_lconst C.x C.b hd hv (K H ls locs hR hS hl)
theorem k_ldc (pc q : Nat) (C : Cx E p s m args meth c own cc nL ret) {ix : Nat} {v : Int32} (hd : decode cc pc = .ok (.ldc ix, 2)) (hq : pc + 2 = q) (hw : Cond.constant own ix v ∈ GW) (K : KW E T V p l e R s m args below meth c nL k n Q q L (.int v :: st)) : KW E T V p l e R s m args below meth c nL k n Q pc L (st) := by
  subst hq
  intro H ls locs hR hS hl
  exact lv_ldc C.x C.b C.ow (C.ts _ hw) hd (K H ls locs hR hS hl)
theorem k_ldcf (pc q : Nat) (C : Cx E p s m args meth c own cc nL ret) {ix : Nat} {v : UInt32} (hd : decode cc pc = .ok (.ldc ix, 2)) (hq : pc + 2 = q) (hw : Cond.constantFloat own ix v ∈ GW) (K : KW E T V p l e R s m args below meth c nL k n Q q L (.float v :: st)) : KW E T V p l e R s m args below meth c nL k n Q pc L (st) := by
  subst hq
  intro H ls locs hR hS hl
  exact lv_ldcf C.x C.b C.ow (C.ts _ hw) hd (K H ls locs hR hS hl)
theorem k_ldc2 (pc q : Nat) (C : Cx E p s m args meth c own cc nL ret) {ix : Nat} {v : Int64} (hd : decode cc pc = .ok (.ldc2_w ix, 3)) (hq : pc + 3 = q) (hw : Cond.constantLong own ix v ∈ GW) (K : KW E T V p l e R s m args below meth c nL k n Q q L (.long v :: st)) : KW E T V p l e R s m args below meth c nL k n Q pc L (st) := by
  subst hq
  intro H ls locs hR hS hl
  exact lv_ldc2 C.x C.b C.ow (C.ts _ hw) hd (K H ls locs hR hS hl)
theorem k_null (pc q : Nat) (C : Cx E p s m args meth c own cc nL ret)  (hd : decode cc pc = .ok (.aconst_null, 1)) (hq : pc + 1 = q)  (K : KW E T V p l e R s m args below meth c nL k n Q q L (.null :: st)) : KW E T V p l e R s m args below meth c nL k n Q pc L (st) := by
  subst hq
  intro H ls locs hR hS hl
  exact lv_null C.x C.b hd (K H ls locs hR hS hl)
theorem k_fconst1 (pc q : Nat) (C : Cx E p s m args meth c own cc nL ret)  (hd : decode cc pc = .ok (.fconst 1, 1)) (hq : pc + 1 = q)  (K : KW E T V p l e R s m args below meth c nL k n Q q L (.float FP.fconst1 :: st)) : KW E T V p l e R s m args below meth c nL k n Q pc L (st) := by
  subst hq
  intro H ls locs hR hS hl
  exact lv_fconst1 C.x C.b hd (K H ls locs hR hS hl)
theorem k_fconst2 (pc q : Nat) (C : Cx E p s m args meth c own cc nL ret)  (hd : decode cc pc = .ok (.fconst 2, 1)) (hq : pc + 1 = q)  (K : KW E T V p l e R s m args below meth c nL k n Q q L (.float FP.fconst2 :: st)) : KW E T V p l e R s m args below meth c nL k n Q pc L (st) := by
  subst hq
  intro H ls locs hR hS hl
  exact lv_fconst2 C.x C.b hd (K H ls locs hR hS hl)
theorem k_iload_n (pc q : Nat) (C : Cx E p s m args meth c own cc nL ret) {z : Fin 4} {x : Int32} (hd : decode cc pc = .ok (.iload_n z, 1)) (hq : pc + 1 = q) (i : Nat) (h : L[i]? = some ((z : Nat), .int x)) (K : KW E T V p l e R s m args below meth c nL k n Q q L (.int x :: st)) : KW E T V p l e R s m args below meth c nL k n Q pc L (st) := by
  subst hq
  intro H ls locs hR hS hl
  exact lv_iload_n C.x C.b hd rfl (lv_at hl i h) (K H ls locs hR hS hl)
theorem k_iload (pc q : Nat) (C : Cx E p s m args meth c own cc nL ret) {z : Nat} {x : Int32} (hd : decode cc pc = .ok (.iload z, 2)) (hq : pc + 2 = q) (i : Nat) (h : L[i]? = some (z, .int x)) (K : KW E T V p l e R s m args below meth c nL k n Q q L (.int x :: st)) : KW E T V p l e R s m args below meth c nL k n Q pc L (st) := by
  subst hq
  intro H ls locs hR hS hl
  exact lv_iload C.x C.b hd (lv_at hl i h) (K H ls locs hR hS hl)
theorem k_lload_n (pc q : Nat) (C : Cx E p s m args meth c own cc nL ret) {z : Fin 4} {x : Int64} (hd : decode cc pc = .ok (.lload_n z, 1)) (hq : pc + 1 = q) (i : Nat) (h : L[i]? = some ((z : Nat), .long x)) (K : KW E T V p l e R s m args below meth c nL k n Q q L (.long x :: st)) : KW E T V p l e R s m args below meth c nL k n Q pc L (st) := by
  subst hq
  intro H ls locs hR hS hl
  exact lv_lload_n C.x C.b hd rfl (lv_at hl i h) (K H ls locs hR hS hl)
theorem k_lload (pc q : Nat) (C : Cx E p s m args meth c own cc nL ret) {z : Nat} {x : Int64} (hd : decode cc pc = .ok (.lload z, 2)) (hq : pc + 2 = q) (i : Nat) (h : L[i]? = some (z, .long x)) (K : KW E T V p l e R s m args below meth c nL k n Q q L (.long x :: st)) : KW E T V p l e R s m args below meth c nL k n Q pc L (st) := by
  subst hq
  intro H ls locs hR hS hl
  exact lv_lload C.x C.b hd (lv_at hl i h) (K H ls locs hR hS hl)
theorem k_fload_n (pc q : Nat) (C : Cx E p s m args meth c own cc nL ret) {z : Fin 4} {x : UInt32} (hd : decode cc pc = .ok (.fload_n z, 1)) (hq : pc + 1 = q) (i : Nat) (h : L[i]? = some ((z : Nat), .float x)) (K : KW E T V p l e R s m args below meth c nL k n Q q L (.float x :: st)) : KW E T V p l e R s m args below meth c nL k n Q pc L (st) := by
  subst hq
  intro H ls locs hR hS hl
  exact lv_fload_n C.x C.b hd rfl (lv_at hl i h) (K H ls locs hR hS hl)
theorem k_aload_n (pc q : Nat) (C : Cx E p s m args meth c own cc nL ret) {z : Fin 4} {x : Nat} (hd : decode cc pc = .ok (.aload_n z, 1)) (hq : pc + 1 = q) (i : Nat) (h : L[i]? = some ((z : Nat), .ref x)) (K : KW E T V p l e R s m args below meth c nL k n Q q L (.ref x :: st)) : KW E T V p l e R s m args below meth c nL k n Q pc L (st) := by
  subst hq
  intro H ls locs hR hS hl
  exact lv_aload_n C.x C.b hd rfl (lv_at hl i h) (K H ls locs hR hS hl)
theorem k_aload (pc q : Nat) (C : Cx E p s m args meth c own cc nL ret) {z : Nat} {x : Nat} (hd : decode cc pc = .ok (.aload z, 2)) (hq : pc + 2 = q) (i : Nat) (h : L[i]? = some (z, .ref x)) (K : KW E T V p l e R s m args below meth c nL k n Q q L (.ref x :: st)) : KW E T V p l e R s m args below meth c nL k n Q pc L (st) := by
  subst hq
  intro H ls locs hR hS hl
  exact lv_aload C.x C.b hd (lv_at hl i h) (K H ls locs hR hS hl)
theorem k_aload_nq (pc q : Nat) (C : Cx E p s m args meth c own cc nL ret) {z : Fin 4} {r : Option Nat} (hd : decode cc pc = .ok (.aload_n z, 1)) (hq : pc + 1 = q) (i : Nat) (h : L[i]? = some ((z : Nat), va_rf r)) (K : KW E T V p l e R s m args below meth c nL k n Q q L (va_rf r :: st)) : KW E T V p l e R s m args below meth c nL k n Q pc L st := by
  subst hq
  intro H ls locs hR hS hl
  cases r with
  | none => exact lv_aload_nN C.x C.b hd rfl (lv_at hl i h) (K H ls locs hR hS hl)
  | some x => exact lv_aload_n C.x C.b hd rfl (lv_at hl i h) (K H ls locs hR hS hl)
theorem k_aloadq (pc q : Nat) (C : Cx E p s m args meth c own cc nL ret) {z : Nat} {r : Option Nat} (hd : decode cc pc = .ok (.aload z, 2)) (hq : pc + 2 = q) (i : Nat) (h : L[i]? = some (z, va_rf r)) (K : KW E T V p l e R s m args below meth c nL k n Q q L (va_rf r :: st)) : KW E T V p l e R s m args below meth c nL k n Q pc L st := by
  subst hq
  intro H ls locs hR hS hl
  cases r with
  | none => exact lv_aloadN C.x C.b hd (lv_at hl i h) (K H ls locs hR hS hl)
  | some x => exact lv_aload C.x C.b hd (lv_at hl i h) (K H ls locs hR hS hl)
theorem k_istore_n (pc q : Nat) (C : Cx E p s m args meth c own cc nL ret) {z : Fin 4} {x : Int32} (L' : List (Nat × Value)) (hd : decode cc pc = .ok (.istore_n z, 1)) (hq : pc + 1 = q) (hn : (z : Nat) < nL) (hL : ((z : Nat), Value.int x) :: L.filter (fun q => !(q.1 == (z : Nat)) && !(q.1 + 1 == (z : Nat) && q.2.category == 2)) = L') (K : KW E T V p l e R s m args below meth c nL k n Q q L' st) : KW E T V p l e R s m args below meth c nL k n Q pc L (.int x :: st) := by
  subst hq
  intro H ls locs hR hS hl
  exact lv_istore_n C.x C.b hd rfl hl hn hL (fun ls' hl' => K H ls' locs hR hS hl')
theorem k_istore (pc q : Nat) (C : Cx E p s m args meth c own cc nL ret) {z : Nat} {x : Int32} (L' : List (Nat × Value)) (hd : decode cc pc = .ok (.istore z, 2)) (hq : pc + 2 = q) (hn : z < nL) (hL : (z, Value.int x) :: L.filter (fun q => !(q.1 == z) && !(q.1 + 1 == z && q.2.category == 2)) = L') (K : KW E T V p l e R s m args below meth c nL k n Q q L' st) : KW E T V p l e R s m args below meth c nL k n Q pc L (.int x :: st) := by
  subst hq
  intro H ls locs hR hS hl
  exact lv_istore C.x C.b hd hl hn hL (fun ls' hl' => K H ls' locs hR hS hl')
theorem k_lstore_n (pc q : Nat) (C : Cx E p s m args meth c own cc nL ret) {z : Fin 4} {x : Int64} (L' : List (Nat × Value)) (hd : decode cc pc = .ok (.lstore_n z, 1)) (hq : pc + 1 = q) (hn : (z : Nat) + 1 < nL) (hL : ((z : Nat), Value.long x) :: L.filter (fun q => !(q.1 == (z : Nat)) && (!(q.1 == (z : Nat) + 1) && !(q.1 + 1 == (z : Nat) && q.2.category == 2))) = L') (K : KW E T V p l e R s m args below meth c nL k n Q q L' st) : KW E T V p l e R s m args below meth c nL k n Q pc L (.long x :: st) := by
  subst hq
  intro H ls locs hR hS hl
  exact lv_lstore_n C.x C.b hd rfl hl hn hL (fun ls' hl' => K H ls' locs hR hS hl')
theorem k_lstore (pc q : Nat) (C : Cx E p s m args meth c own cc nL ret) {z : Nat} {x : Int64} (L' : List (Nat × Value)) (hd : decode cc pc = .ok (.lstore z, 2)) (hq : pc + 2 = q) (hn : z + 1 < nL) (hL : (z, Value.long x) :: L.filter (fun q => !(q.1 == z) && (!(q.1 == z + 1) && !(q.1 + 1 == z && q.2.category == 2))) = L') (K : KW E T V p l e R s m args below meth c nL k n Q q L' st) : KW E T V p l e R s m args below meth c nL k n Q pc L (.long x :: st) := by
  subst hq
  intro H ls locs hR hS hl
  exact lv_lstore C.x C.b hd hl hn hL (fun ls' hl' => K H ls' locs hR hS hl')
theorem k_fstore_n (pc q : Nat) (C : Cx E p s m args meth c own cc nL ret) {z : Fin 4} {x : UInt32} (L' : List (Nat × Value)) (hd : decode cc pc = .ok (.fstore_n z, 1)) (hq : pc + 1 = q) (hn : (z : Nat) < nL) (hL : ((z : Nat), Value.float x) :: L.filter (fun q => !(q.1 == (z : Nat)) && !(q.1 + 1 == (z : Nat) && q.2.category == 2)) = L') (K : KW E T V p l e R s m args below meth c nL k n Q q L' st) : KW E T V p l e R s m args below meth c nL k n Q pc L (.float x :: st) := by
  subst hq
  intro H ls locs hR hS hl
  exact lv_fstore_n C.x C.b hd rfl hl hn hL (fun ls' hl' => K H ls' locs hR hS hl')
theorem k_astore_n (pc q : Nat) (C : Cx E p s m args meth c own cc nL ret) {z : Fin 4} {x : Nat} (L' : List (Nat × Value)) (hd : decode cc pc = .ok (.astore_n z, 1)) (hq : pc + 1 = q) (hn : (z : Nat) < nL) (hL : ((z : Nat), Value.ref x) :: L.filter (fun q => !(q.1 == (z : Nat)) && !(q.1 + 1 == (z : Nat) && q.2.category == 2)) = L') (K : KW E T V p l e R s m args below meth c nL k n Q q L' st) : KW E T V p l e R s m args below meth c nL k n Q pc L (.ref x :: st) := by
  subst hq
  intro H ls locs hR hS hl
  exact lv_astore_n C.x C.b hd rfl hl hn hL (fun ls' hl' => K H ls' locs hR hS hl')
theorem k_astore (pc q : Nat) (C : Cx E p s m args meth c own cc nL ret) {z : Nat} {x : Nat} (L' : List (Nat × Value)) (hd : decode cc pc = .ok (.astore z, 2)) (hq : pc + 2 = q) (hn : z < nL) (hL : (z, Value.ref x) :: L.filter (fun q => !(q.1 == z) && !(q.1 + 1 == z && q.2.category == 2)) = L') (K : KW E T V p l e R s m args below meth c nL k n Q q L' st) : KW E T V p l e R s m args below meth c nL k n Q pc L (.ref x :: st) := by
  subst hq
  intro H ls locs hR hS hl
  exact lv_astore C.x C.b hd hl hn hL (fun ls' hl' => K H ls' locs hR hS hl')
theorem k_astore_nq (pc q : Nat) (C : Cx E p s m args meth c own cc nL ret) {z : Fin 4} {r : Option Nat} (L' : List (Nat × Value)) (hd : decode cc pc = .ok (.astore_n z, 1)) (hq : pc + 1 = q) (hn : (z : Nat) < nL) (hL : ((z : Nat), va_rf r) :: L.filter (fun q => !(q.1 == (z : Nat)) && !(q.1 + 1 == (z : Nat) && q.2.category == 2)) = L') (K : KW E T V p l e R s m args below meth c nL k n Q q L' st) : KW E T V p l e R s m args below meth c nL k n Q pc L (va_rf r :: st) := by
  subst hq
  intro H ls locs hR hS hl
  cases r with
  | none => exact lv_astore_nN C.x C.b hd rfl hl hn hL (fun ls' hl' => K H ls' locs hR hS hl')
  | some x => exact lv_astore_n C.x C.b hd rfl hl hn hL (fun ls' hl' => K H ls' locs hR hS hl')
theorem k_astoreq (pc q : Nat) (C : Cx E p s m args meth c own cc nL ret) {z : Nat} {r : Option Nat} (L' : List (Nat × Value)) (hd : decode cc pc = .ok (.astore z, 2)) (hq : pc + 2 = q) (hn : z < nL) (hL : (z, va_rf r) :: L.filter (fun q => !(q.1 == z) && !(q.1 + 1 == z && q.2.category == 2)) = L') (K : KW E T V p l e R s m args below meth c nL k n Q q L' st) : KW E T V p l e R s m args below meth c nL k n Q pc L (va_rf r :: st) := by
  subst hq
  intro H ls locs hR hS hl
  cases r with
  | none => exact lv_astoreN C.x C.b hd hl hn hL (fun ls' hl' => K H ls' locs hR hS hl')
  | some x => exact lv_astore C.x C.b hd hl hn hL (fun ls' hl' => K H ls' locs hR hS hl')
theorem k_iinc (pc q : Nat) (C : Cx E p s m args meth c own cc nL ret) {z : Nat} {d : Int} {x : Int32} (L' : List (Nat × Value)) (v : Int32) (hd : decode cc pc = .ok (.iinc z d, 3)) (hq : pc + 3 = q) (i : Nat) (h : L[i]? = some (z, .int x)) (hv : x + Int32.ofInt d = v) (hn : z < nL) (hL : (z, Value.int v) :: L.filter (fun q => !(q.1 == z) && !(q.1 + 1 == z && q.2.category == 2)) = L') (K : KW E T V p l e R s m args below meth c nL k n Q q L' st) : KW E T V p l e R s m args below meth c nL k n Q pc L st := by
  subst hq
  intro H ls locs hR hS hl
  exact lv_iinc C.x C.b hd hl (k := i) h hv hn hL (fun ls' hl' => K H ls' locs hR hS hl')
theorem k_if_eq (pc t q : Nat) (C : Cx E p s m args meth c own cc nL ret) {x : Int32} {off : Int} (hd : decode cc pc = .ok (.ifCond .eq off, 3)) (ht : (pc : Int) + off = (t : Int)) (hq : pc + 3 = q) (kt : x = 0 → KW E T V p l e R s m args below meth c nL k n Q t L st) (kf : ¬ x = 0 → KW E T V p l e R s m args below meth c nL k n Q q L st) : KW E T V p l e R s m args below meth c nL k n Q pc L (.int x :: st) := by
  subst hq
  intro H ls locs hR hS hl
  exact lv_if_eq C.x C.b hd ht (fun h => kt h H ls locs hR hS hl) (fun h => kf (by first | exact h | exact Classical.not_not.mp h) H ls locs hR hS hl)
theorem k_icmp_eq (pc t q : Nat) (C : Cx E p s m args meth c own cc nL ret) {x y : Int32} {off : Int} (hd : decode cc pc = .ok (.if_icmp .eq off, 3)) (ht : (pc : Int) + off = (t : Int)) (hq : pc + 3 = q) (kt : x = y → KW E T V p l e R s m args below meth c nL k n Q t L st) (kf : ¬ x = y → KW E T V p l e R s m args below meth c nL k n Q q L st) : KW E T V p l e R s m args below meth c nL k n Q pc L (.int y :: .int x :: st) := by
  subst hq
  intro H ls locs hR hS hl
  exact lv_icmp_eq C.x C.b hd ht (fun h => kt h H ls locs hR hS hl) (fun h => kf (by first | exact h | exact Classical.not_not.mp h) H ls locs hR hS hl)
theorem k_if_ne (pc t q : Nat) (C : Cx E p s m args meth c own cc nL ret) {x : Int32} {off : Int} (hd : decode cc pc = .ok (.ifCond .ne off, 3)) (ht : (pc : Int) + off = (t : Int)) (hq : pc + 3 = q) (kt : ¬ x = 0 → KW E T V p l e R s m args below meth c nL k n Q t L st) (kf : x = 0 → KW E T V p l e R s m args below meth c nL k n Q q L st) : KW E T V p l e R s m args below meth c nL k n Q pc L (.int x :: st) := by
  subst hq
  intro H ls locs hR hS hl
  exact lv_if_ne C.x C.b hd ht (fun h => kt h H ls locs hR hS hl) (fun h => kf (by first | exact h | exact Classical.not_not.mp h) H ls locs hR hS hl)
theorem k_icmp_ne (pc t q : Nat) (C : Cx E p s m args meth c own cc nL ret) {x y : Int32} {off : Int} (hd : decode cc pc = .ok (.if_icmp .ne off, 3)) (ht : (pc : Int) + off = (t : Int)) (hq : pc + 3 = q) (kt : ¬ x = y → KW E T V p l e R s m args below meth c nL k n Q t L st) (kf : x = y → KW E T V p l e R s m args below meth c nL k n Q q L st) : KW E T V p l e R s m args below meth c nL k n Q pc L (.int y :: .int x :: st) := by
  subst hq
  intro H ls locs hR hS hl
  exact lv_icmp_ne C.x C.b hd ht (fun h => kt h H ls locs hR hS hl) (fun h => kf (by first | exact h | exact Classical.not_not.mp h) H ls locs hR hS hl)
theorem k_if_lt (pc t q : Nat) (C : Cx E p s m args meth c own cc nL ret) {x : Int32} {off : Int} (hd : decode cc pc = .ok (.ifCond .lt off, 3)) (ht : (pc : Int) + off = (t : Int)) (hq : pc + 3 = q) (kt : x < 0 → KW E T V p l e R s m args below meth c nL k n Q t L st) (kf : ¬ x < 0 → KW E T V p l e R s m args below meth c nL k n Q q L st) : KW E T V p l e R s m args below meth c nL k n Q pc L (.int x :: st) := by
  subst hq
  intro H ls locs hR hS hl
  exact lv_if_lt C.x C.b hd ht (fun h => kt h H ls locs hR hS hl) (fun h => kf (by first | exact h | exact Classical.not_not.mp h) H ls locs hR hS hl)
theorem k_icmp_lt (pc t q : Nat) (C : Cx E p s m args meth c own cc nL ret) {x y : Int32} {off : Int} (hd : decode cc pc = .ok (.if_icmp .lt off, 3)) (ht : (pc : Int) + off = (t : Int)) (hq : pc + 3 = q) (kt : x < y → KW E T V p l e R s m args below meth c nL k n Q t L st) (kf : ¬ x < y → KW E T V p l e R s m args below meth c nL k n Q q L st) : KW E T V p l e R s m args below meth c nL k n Q pc L (.int y :: .int x :: st) := by
  subst hq
  intro H ls locs hR hS hl
  exact lv_icmp_lt C.x C.b hd ht (fun h => kt h H ls locs hR hS hl) (fun h => kf (by first | exact h | exact Classical.not_not.mp h) H ls locs hR hS hl)
theorem k_if_ge (pc t q : Nat) (C : Cx E p s m args meth c own cc nL ret) {x : Int32} {off : Int} (hd : decode cc pc = .ok (.ifCond .ge off, 3)) (ht : (pc : Int) + off = (t : Int)) (hq : pc + 3 = q) (kt : 0 ≤ x → KW E T V p l e R s m args below meth c nL k n Q t L st) (kf : ¬ 0 ≤ x → KW E T V p l e R s m args below meth c nL k n Q q L st) : KW E T V p l e R s m args below meth c nL k n Q pc L (.int x :: st) := by
  subst hq
  intro H ls locs hR hS hl
  exact lv_if_ge C.x C.b hd ht (fun h => kt h H ls locs hR hS hl) (fun h => kf (by first | exact h | exact Classical.not_not.mp h) H ls locs hR hS hl)
theorem k_icmp_ge (pc t q : Nat) (C : Cx E p s m args meth c own cc nL ret) {x y : Int32} {off : Int} (hd : decode cc pc = .ok (.if_icmp .ge off, 3)) (ht : (pc : Int) + off = (t : Int)) (hq : pc + 3 = q) (kt : y ≤ x → KW E T V p l e R s m args below meth c nL k n Q t L st) (kf : ¬ y ≤ x → KW E T V p l e R s m args below meth c nL k n Q q L st) : KW E T V p l e R s m args below meth c nL k n Q pc L (.int y :: .int x :: st) := by
  subst hq
  intro H ls locs hR hS hl
  exact lv_icmp_ge C.x C.b hd ht (fun h => kt h H ls locs hR hS hl) (fun h => kf (by first | exact h | exact Classical.not_not.mp h) H ls locs hR hS hl)
theorem k_if_gt (pc t q : Nat) (C : Cx E p s m args meth c own cc nL ret) {x : Int32} {off : Int} (hd : decode cc pc = .ok (.ifCond .gt off, 3)) (ht : (pc : Int) + off = (t : Int)) (hq : pc + 3 = q) (kt : 0 < x → KW E T V p l e R s m args below meth c nL k n Q t L st) (kf : ¬ 0 < x → KW E T V p l e R s m args below meth c nL k n Q q L st) : KW E T V p l e R s m args below meth c nL k n Q pc L (.int x :: st) := by
  subst hq
  intro H ls locs hR hS hl
  exact lv_if_gt C.x C.b hd ht (fun h => kt h H ls locs hR hS hl) (fun h => kf (by first | exact h | exact Classical.not_not.mp h) H ls locs hR hS hl)
theorem k_icmp_gt (pc t q : Nat) (C : Cx E p s m args meth c own cc nL ret) {x y : Int32} {off : Int} (hd : decode cc pc = .ok (.if_icmp .gt off, 3)) (ht : (pc : Int) + off = (t : Int)) (hq : pc + 3 = q) (kt : y < x → KW E T V p l e R s m args below meth c nL k n Q t L st) (kf : ¬ y < x → KW E T V p l e R s m args below meth c nL k n Q q L st) : KW E T V p l e R s m args below meth c nL k n Q pc L (.int y :: .int x :: st) := by
  subst hq
  intro H ls locs hR hS hl
  exact lv_icmp_gt C.x C.b hd ht (fun h => kt h H ls locs hR hS hl) (fun h => kf (by first | exact h | exact Classical.not_not.mp h) H ls locs hR hS hl)
theorem k_if_le (pc t q : Nat) (C : Cx E p s m args meth c own cc nL ret) {x : Int32} {off : Int} (hd : decode cc pc = .ok (.ifCond .le off, 3)) (ht : (pc : Int) + off = (t : Int)) (hq : pc + 3 = q) (kt : x ≤ 0 → KW E T V p l e R s m args below meth c nL k n Q t L st) (kf : ¬ x ≤ 0 → KW E T V p l e R s m args below meth c nL k n Q q L st) : KW E T V p l e R s m args below meth c nL k n Q pc L (.int x :: st) := by
  subst hq
  intro H ls locs hR hS hl
  exact lv_if_le C.x C.b hd ht (fun h => kt h H ls locs hR hS hl) (fun h => kf (by first | exact h | exact Classical.not_not.mp h) H ls locs hR hS hl)
theorem k_icmp_le (pc t q : Nat) (C : Cx E p s m args meth c own cc nL ret) {x y : Int32} {off : Int} (hd : decode cc pc = .ok (.if_icmp .le off, 3)) (ht : (pc : Int) + off = (t : Int)) (hq : pc + 3 = q) (kt : x ≤ y → KW E T V p l e R s m args below meth c nL k n Q t L st) (kf : ¬ x ≤ y → KW E T V p l e R s m args below meth c nL k n Q q L st) : KW E T V p l e R s m args below meth c nL k n Q pc L (.int y :: .int x :: st) := by
  subst hq
  intro H ls locs hR hS hl
  exact lv_icmp_le C.x C.b hd ht (fun h => kt h H ls locs hR hS hl) (fun h => kf (by first | exact h | exact Classical.not_not.mp h) H ls locs hR hS hl)
theorem k_goto (pc t : Nat) (C : Cx E p s m args meth c own cc nL ret) {off : Int} (hd : decode cc pc = .ok (.goto off, 3)) (ht : (pc : Int) + off = (t : Int)) (K : KW E T V p l e R s m args below meth c nL k n Q t L st) : KW E T V p l e R s m args below meth c nL k n Q pc L st := fun H ls locs hR hS hl => lv_goto C.x C.b hd ht (K H ls locs hR hS hl)
theorem k_ifnull (pc t q : Nat) (C : Cx E p s m args meth c own cc nL ret) {r : Option Nat} {off : Int} (hd : decode cc pc = .ok (.ifnull off, 3)) (ht : (pc : Int) + off = (t : Int)) (hq : pc + 3 = q) (kt : r = none → KW E T V p l e R s m args below meth c nL k n Q t L st) (kf : ∀ a : Nat, r = some a → KW E T V p l e R s m args below meth c nL k n Q q L st) : KW E T V p l e R s m args below meth c nL k n Q pc L (va_rf r :: st) := by
  subst hq
  intro H ls locs hR hS hl
  cases r with
  | none => exact lv_ifnullN C.x C.b hd ht (kt rfl H ls locs hR hS hl)
  | some a => exact lv_ifnull C.x C.b hd (kf a rfl H ls locs hR hS hl)
theorem k_ifnonnull (pc t q : Nat) (C : Cx E p s m args meth c own cc nL ret) {r : Option Nat} {off : Int} (hd : decode cc pc = .ok (.ifnonnull off, 3)) (ht : (pc : Int) + off = (t : Int)) (hq : pc + 3 = q) (kt : ∀ a : Nat, r = some a → KW E T V p l e R s m args below meth c nL k n Q t L st) (kf : r = none → KW E T V p l e R s m args below meth c nL k n Q q L st) : KW E T V p l e R s m args below meth c nL k n Q pc L (va_rf r :: st) := by
  subst hq
  intro H ls locs hR hS hl
  cases r with
  | none => exact lv_ifnonnullN C.x C.b hd (kf rfl H ls locs hR hS hl)
  | some a => exact lv_ifnonnull C.x C.b hd ht (kt a rfl H ls locs hR hS hl)
theorem k_tabIn (pc t : Nat) (C : Cx E p s m args meth c own cc nL ret) {dflt lo hi : Int} {offs : Array Int} {len : Nat} {x : Int32} {off : Int} (hd : decode cc pc = .ok (.tableswitch dflt lo hi offs, len)) (h1 : ¬ x.toInt < lo) (h2 : ¬ hi < x.toInt) (ho : offs[(x.toInt - lo).toNat]? = some off) (ht : (pc : Int) + off = (t : Int)) (K : KW E T V p l e R s m args below meth c nL k n Q t L st) : KW E T V p l e R s m args below meth c nL k n Q pc L (.int x :: st) := fun H ls locs hR hS hl => lv_tableIn C.x C.b hd h1 h2 ho ht (K H ls locs hR hS hl)
theorem k_tabOut (pc t : Nat) (C : Cx E p s m args meth c own cc nL ret) {dflt lo hi : Int} {offs : Array Int} {len : Nat} {x : Int32} (hd : decode cc pc = .ok (.tableswitch dflt lo hi offs, len)) (h : x.toInt < lo ∨ hi < x.toInt) (ht : (pc : Int) + dflt = (t : Int)) (K : KW E T V p l e R s m args below meth c nL k n Q t L st) : KW E T V p l e R s m args below meth c nL k n Q pc L (.int x :: st) := fun H ls locs hR hS hl => lv_tableOut C.x C.b hd h ht (K H ls locs hR hS hl)
theorem k_perm {pc : Nat} (ks : List Nat) {L' : List (Nat × Value)} (hL : lv_pick L ks = L') (K : KW E T V p l e R s m args below meth c nL k n Q pc L' st) : KW E T V p l e R s m args below meth c nL k n Q pc L st := fun H ls locs hR hS hl => K H ls locs hR hS (lv_sub hl ks hL)
theorem k_get (pc q : Nat) (C : Cx E p s m args meth c own cc nL ret) {ci N ix a : Nat} {Cn : String} {Tt : u_T} {ty : Nat → FieldType} {v : Value} (hd : decode cc pc = .ok (.getfield ix, 3)) (hq : pc + 3 = q) (I : CI ci Cn Tt N ty) (j : Nat) (hw : Cond.fieldLink own ix (Tt j).1 (Tt j).2.1 (Tt j).2.2.1 ∈ GW) (ho : tO T a ci) (hj : j < N) (hv : (flds T V a ci)[j]? = some v) (K : KW E T V p l e R s m args below meth c nL k n Q q L (v :: st)) : KW E T V p l e R s m args below meth c nL k n Q pc L (.ref a :: st) := by
  subst hq
  intro H ls locs hR hS hl
  obtain ⟨h1, h2⟩ := hR.2 a _ ho
  have hP : va_P E.1 classes [(a, .inr (ci, flds T V a ci))] H := by
    intro i q hi
    cases i with
    | zero => cases hi; exact h2
    | succ i => cases hi
  exact va_get C.x C.b C.ts I.2.1 C.ow C.K hP 0 rfl I.1 j hj (C.ts _ hw) (fun _ h => h) hv hd (K H ls locs hR hS hl)
theorem k_getF (pc q : Nat) (C : Cx E p s m args meth c own cc nL ret) {ci N ix a b : Nat} {Cn : String} {Tt : u_T} {ty : Nat → FieldType} (hd : decode cc pc = .ok (.getfield ix, 3)) (hq : pc + 3 = q) (I : CI ci Cn Tt N ty) (j : Nat) (hw : Cond.fieldLink own ix (Tt j).1 (Tt j).2.1 (Tt j).2.2.1 ∈ GW) (ho : tO T a ci) (hj : j < N) (hf : tF T a j b) (hv : (flds T V a ci)[j]? = some (va_rf (T.2.2 a j))) (K : KW E T V p l e R s m args below meth c nL k n Q q L (.ref b :: st)) : KW E T V p l e R s m args below meth c nL k n Q pc L (.ref a :: st) := by
  refine k_get pc q C hd hq I j hw ho hj (v := .ref b) ?_ K
  rw [hv, show T.2.2 a j = some b from hf]
  rfl
theorem k_put (pc q : Nat) (C : Cx E p s m args meth c own cc nL ret) {ci N ix a : Nat} {Cn : String} {Tt : u_T} {ty0 : Nat → FieldType} {v : Value} {V' : gV} (hd : decode cc pc = .ok (.putfield ix, 3)) (hq : pc + 3 = q) (I : CI ci Cn Tt N ty0) (j : Nat) (hw : Cond.fieldLink own ix (Tt j).1 (Tt j).2.1 (Tt j).2.2.1 ∈ GW) (ho : tO T a ci) (hj : j < N) (hfin : (Tt j).2.2.2 = false) (hn : narrow (ty0 j) v = v) (hfit : fits (ty0 j) v = true)
    (hoff : ∀ b : Nat, b ≠ a → V'.1 b = V.1 b ∧ V'.2.1 b = V.2.1 b ∧ V'.2.2 b = V.2.2 b) (hset : flds T V' a ci = (flds T V a ci).set j v) (K : KW E T V' p l e R s m args below meth c nL k n Q q L st) : KW E T V p l e R s m args below meth c nL k n Q pc L (v :: .ref a :: st) := by
  subst hq
  intro H ls locs hR hS hl
  obtain ⟨h1, h2⟩ := hR.2 a _ ho
  have hap := va_apart (own := own) C.ts I.2.1 ty0 I.2.2.1 I.2.2.2.1 C.K I.1
  obtain ⟨r, g1, cell, q1, q2, q3, q4⟩ := h2
  have hr : r = (Cn, Tt, N) := Option.some.inj (g1.symm.trans I.1)
  subst hr
  obtain ⟨hSl, hfc, kC, hkC, hkind⟩ := C.K.1 ci _ I.1
  obtain ⟨cf, kf, fi, f, hi, hsl⟩ := hSl j hj
  have hlay := C.ts _ (I.2.1 _ (u_in_lay hj))
  unfold u_lay at hlay
  rw [if_neg (by rw [hfin]; decide)] at hlay
  have hst := (u_facts hfc hkC (u_lays C.ts I.2.1 hj) hi).1
  have h6 := u_store hfc hkC hkind hlay hi (I.2.2.1 j hj) hn hfit
  refine W.putK C.x C.b (f := f) ⟨C.ow, C.ts _ hw, ⟨_, _, _, hi⟩, hst⟩ (by rw [q2]; exact h6) q1 q3 (by rw [hsl]; exact k2_hasslot (q4 j hj)) rfl rfl hd fun H' e1 e2 e3 => ?_
  rw [hsl] at e1 ⊢
  refine K H' ls _ (hR.put e2 e3 hoff fun k2 hk2 => ?_) (hS.put e2 e3 h1) hl
  have hk3 : k2 = .inr ci := Option.some.inj (hk2.symm.trans ho)
  subst hk3
  show ∃ r : vw_C, classes[ci]? = some r ∧ t_OB a (E.1.1 ci) r.2.2 (E.1.2 ci) H' (vp_V (flds T V' a ci))
  rw [hset]
  exact ⟨_, I.1, t_OB.to (V := updV (vp_V (flds T V a ci)) j v) ⟨_, e1, q2, q3, t_set q4 hap hj v⟩ (fun i _ => vp_updV_set (by rw [I.2.2.2.2]; exact hj) v i)⟩
theorem tyl_at {E : gE} (t : Nat) (ht : t < 6) : (tyl E)[t]? = some (E.2.1 t, aty t) := by
  rcases (show t = 0 ∨ t = 1 ∨ t = 2 ∨ t = 3 ∨ t = 4 ∨ t = 5 by omega) with rfl | rfl | rfl | rfl | rfl | rfl <;> rfl
theorem Rep.one {E : gE} {T : gT} {V : gV} {H : Heap} {a : Nat} {x : kd} (hR : Rep E T V H) (ho : T.2.1 a = some x) : va_P E.1 classes [(a, ent E T V a x)] H := by
  intro i q hi
  cases i with
  | zero => cases hi; exact (hR.2 a _ ho).2
  | succ i => cases hi
theorem k_alen (pc q : Nat) (C : Cx E p s m args meth c own cc nL ret) {a t N : Nat} {v : Int32} (hd : decode cc pc = .ok (.arraylength, 1)) (hq : pc + 1 = q) (ht : tA T a t N) (h6 : t < 6) (hv : Int32.ofNat N = v) (K : KW E T V p l e R s m args below meth c nL k n Q q L (.int v :: st)) : KW E T V p l e R s m args below meth c nL k n Q pc L (.ref a :: st) := by
  subst hq
  intro H ls locs hR hS hl
  exact va_alen C.x C.b C.K (hR.one ht) 0 t rfl (tyl_at t h6) hv hd (K H ls locs hR hS hl)
theorem k_iald (pc q : Nat) (C : Cx E p s m args meth c own cc nL ret) {a N : Nat} {i : Int32} (hd : decode cc pc = .ok (.iaload, 1)) (hq : pc + 1 = q) (ht : tA T a 0 N) (hin : vp_in i N) (K : KW E T V p l e R s m args below meth c nL k n Q q L (.int (V.1 a i.toNatClampNeg) :: st)) : KW E T V p l e R s m args below meth c nL k n Q pc L (.int i :: .ref a :: st) := by
  subst hq
  intro H ls locs hR hS hl
  exact va_iald C.x C.b C.K (hR.one ht) 0 0 rfl rfl hin hd (K H ls locs hR hS hl)
theorem k_cald (pc q : Nat) (C : Cx E p s m args meth c own cc nL ret) {a N : Nat} {i : Int32} (hd : decode cc pc = .ok (.caload, 1)) (hq : pc + 1 = q) (ht : tA T a 4 N) (hin : vp_in i N) (K : KW E T V p l e R s m args below meth c nL k n Q q L (.int (V.1 a i.toNatClampNeg) :: st)) : KW E T V p l e R s m args below meth c nL k n Q pc L (.int i :: .ref a :: st) := by
  subst hq
  intro H ls locs hR hS hl
  exact va_cald C.x C.b C.K (hR.one ht) 0 4 rfl rfl hin hd (K H ls locs hR hS hl)
theorem k_zald (pc q : Nat) (C : Cx E p s m args meth c own cc nL ret) {a N : Nat} {i : Int32} (hd : decode cc pc = .ok (.baload, 1)) (hq : pc + 1 = q) (ht : tA T a 5 N) (hin : vp_in i N) (K : KW E T V p l e R s m args below meth c nL k n Q q L (.int (V.1 a i.toNatClampNeg) :: st)) : KW E T V p l e R s m args below meth c nL k n Q pc L (.int i :: .ref a :: st) := by
  subst hq
  intro H ls locs hR hS hl
  exact va_zald C.x C.b C.K (hR.one ht) 0 5 rfl rfl hin hd (K H ls locs hR hS hl)
theorem k_lald (pc q : Nat) (C : Cx E p s m args meth c own cc nL ret) {a N : Nat} {i : Int32} (hd : decode cc pc = .ok (.laload, 1)) (hq : pc + 1 = q) (ht : tA T a 1 N) (hin : vp_in i N) (K : KW E T V p l e R s m args below meth c nL k n Q q L (.long (V.2.1 a i.toNatClampNeg) :: st)) : KW E T V p l e R s m args below meth c nL k n Q pc L (.int i :: .ref a :: st) := by
  subst hq
  intro H ls locs hR hS hl
  exact va_lald C.x C.b C.K (hR.one ht) 0 1 rfl rfl hin hd (K H ls locs hR hS hl)
theorem k_aald2 (pc q : Nat) (C : Cx E p s m args meth c own cc nL ret) {a N : Nat} {i : Int32} (hd : decode cc pc = .ok (.aaload, 1)) (hq : pc + 1 = q) (ht : tA T a 2 N) (hin : vp_in i N) (K : KW E T V p l e R s m args below meth c nL k n Q q L (va_rf (V.2.2 a i.toNatClampNeg) :: st)) : KW E T V p l e R s m args below meth c nL k n Q pc L (.int i :: .ref a :: st) := by
  subst hq
  intro H ls locs hR hS hl
  exact va_aldq C.x C.b C.K (hR.one ht) 0 2 rfl rfl hin hd (K H ls locs hR hS hl)
theorem k_aald3 (pc q : Nat) (C : Cx E p s m args meth c own cc nL ret) {a N : Nat} {i : Int32} (hd : decode cc pc = .ok (.aaload, 1)) (hq : pc + 1 = q) (ht : tA T a 3 N) (hin : vp_in i N) (K : KW E T V p l e R s m args below meth c nL k n Q q L (va_rf (V.2.2 a i.toNatClampNeg) :: st)) : KW E T V p l e R s m args below meth c nL k n Q pc L (.int i :: .ref a :: st) := by
  subst hq
  intro H ls locs hR hS hl
  exact va_aldq C.x C.b C.K (hR.one ht) 0 3 rfl rfl hin hd (K H ls locs hR hS hl)
theorem k_iast (pc q : Nat) (C : Cx E p s m args meth c own cc nL ret) {a N : Nat} {i : Int32} {x : Int32}  (hd : decode cc pc = .ok (.iastore, 1)) (hq : pc + 1 = q) (ht : tA T a 0 N) (hin : vp_in i N) (K : KW E T (wI V a i.toNatClampNeg x) p l e R s m args below meth c nL k n Q q L st) : KW E T V p l e R s m args below meth c nL k n Q pc L (.int x :: .int i :: .ref a :: st) := by
  subst hq
  intro H ls locs hR hS hl
  have hlt : i.toNatClampNeg < N := Nat.not_le.mp fun z => hin (Or.inr z)
  have hP := hR.one ht
  refine W.iast C.x C.b (hP 0 _ rfl) ((C.K.2 0 _ rfl).1 N (fun j => .int (V.1 a j))) (fun z => by cases z) (by show ¬ (i < 0 ∨ (arrV _ _ _).slots.size ≤ _); rw [arrV_size]; exact hin) rfl rfl hd fun H1 e z oq => ?_
  refine K H1 ls _ (hR.put z oq wI_off fun k2 hk2 => ?_) (hS.put z oq (hR.2 a _ ht).1) hl
  have hk3 : k2 = .inl (0, N) := Option.some.inj (hk2.symm.trans ht)
  subst hk3
  show H1[a]? = some (vp_cell _ _)
  rw [e]
  simp only [ent, arrv, vp_cell_i]
  rw [arrV_store]
  congr 2
  funext j
  by_cases hj : j = i.toNatClampNeg
  · subst hj
    simp [updV, wI, upd]
  · simp [updV, wI, upd, hj]
theorem k_last (pc q : Nat) (C : Cx E p s m args meth c own cc nL ret) {a N : Nat} {i : Int32} {x : Int64}  (hd : decode cc pc = .ok (.lastore, 1)) (hq : pc + 1 = q) (ht : tA T a 1 N) (hin : vp_in i N) (K : KW E T (wL V a i.toNatClampNeg x) p l e R s m args below meth c nL k n Q q L st) : KW E T V p l e R s m args below meth c nL k n Q pc L (.long x :: .int i :: .ref a :: st) := by
  subst hq
  intro H ls locs hR hS hl
  have hlt : i.toNatClampNeg < N := Nat.not_le.mp fun z => hin (Or.inr z)
  have hP := hR.one ht
  refine W.last C.x C.b (hP 0 _ rfl) ((C.K.2 1 _ rfl).1 N (fun j => .long (V.2.1 a j))) (fun z => by cases z) (by show ¬ (i < 0 ∨ (arrV _ _ _).slots.size ≤ _); rw [arrV_size]; exact hin) rfl rfl hd fun H1 e z oq => ?_
  refine K H1 ls _ (hR.put z oq wL_off fun k2 hk2 => ?_) (hS.put z oq (hR.2 a _ ht).1) hl
  have hk3 : k2 = .inl (1, N) := Option.some.inj (hk2.symm.trans ht)
  subst hk3
  show H1[a]? = some (vp_cell _ _)
  rw [e]
  simp only [ent, arrv, vp_cell_l]
  rw [arrV_store]
  congr 2
  funext j
  by_cases hj : j = i.toNatClampNeg
  · subst hj
    simp [updV, wL, vp_updL]
  · simp [updV, wL, vp_updL, hj]
theorem k_cast (pc q : Nat) (C : Cx E p s m args meth c own cc nL ret) {a N : Nat} {i : Int32} {x : Int32}  (hd : decode cc pc = .ok (.castore, 1)) (hq : pc + 1 = q) (ht : tA T a 4 N) (hin : vp_in i N) (K : KW E T (wI V a i.toNatClampNeg (vp_nar .char x)) p l e R s m args below meth c nL k n Q q L st) : KW E T V p l e R s m args below meth c nL k n Q pc L (.int x :: .int i :: .ref a :: st) := by
  subst hq
  intro H ls locs hR hS hl
  have hlt : i.toNatClampNeg < N := Nat.not_le.mp fun z => hin (Or.inr z)
  have hP := hR.one ht
  refine W.cast C.x C.b (hP 0 _ rfl) ((C.K.2 4 _ rfl).1 N (fun j => .int (V.1 a j))) (fun z => by cases z) (by show ¬ (i < 0 ∨ (arrV _ _ _).slots.size ≤ _); rw [arrV_size]; exact hin) rfl rfl hd fun H1 e z oq => ?_
  refine K H1 ls _ (hR.put z oq wI_off fun k2 hk2 => ?_) (hS.put z oq (hR.2 a _ ht).1) hl
  have hk3 : k2 = .inl (4, N) := Option.some.inj (hk2.symm.trans ht)
  subst hk3
  show H1[a]? = some (vp_cell _ _)
  rw [e]
  simp only [ent, arrv, vp_cell_i]
  rw [arrV_store]
  congr 2
  funext j
  by_cases hj : j = i.toNatClampNeg
  · subst hj
    simp [updV, wI, upd]
    rfl
  · simp [updV, wI, upd, hj]
theorem k_zast (pc q : Nat) (C : Cx E p s m args meth c own cc nL ret) {a N : Nat} {i : Int32} {x : Int32}  (hd : decode cc pc = .ok (.bastore, 1)) (hq : pc + 1 = q) (ht : tA T a 5 N) (hin : vp_in i N) (K : KW E T (wI V a i.toNatClampNeg (vp_nar .boolean x)) p l e R s m args below meth c nL k n Q q L st) : KW E T V p l e R s m args below meth c nL k n Q pc L (.int x :: .int i :: .ref a :: st) := by
  subst hq
  intro H ls locs hR hS hl
  have hlt : i.toNatClampNeg < N := Nat.not_le.mp fun z => hin (Or.inr z)
  have hP := hR.one ht
  refine W.zast C.x C.b (hP 0 _ rfl) ((C.K.2 5 _ rfl).1 N (fun j => .int (V.1 a j))) (fun z => by cases z) (by show ¬ (i < 0 ∨ (arrV _ _ _).slots.size ≤ _); rw [arrV_size]; exact hin) rfl rfl hd fun H1 e z oq => ?_
  refine K H1 ls _ (hR.put z oq wI_off fun k2 hk2 => ?_) (hS.put z oq (hR.2 a _ ht).1) hl
  have hk3 : k2 = .inl (5, N) := Option.some.inj (hk2.symm.trans ht)
  subst hk3
  show H1[a]? = some (vp_cell _ _)
  rw [e]
  simp only [ent, arrv, vp_cell_i]
  rw [arrV_store]
  congr 2
  funext j
  by_cases hj : j = i.toNatClampNeg
  · subst hj
    simp [updV, wI, upd]
    rfl
  · simp [updV, wI, upd, hj]
theorem k_aast2 (pc q : Nat) (C : Cx E p s m args meth c own cc nL ret) {a N b : Nat} {i : Int32} (hd : decode cc pc = .ok (.aastore, 1)) (hq : pc + 1 = q) (ht : tA T a 2 N) (hb : tO T b 1) (hin : vp_in i N) (K : KW E T (wR V a i.toNatClampNeg (some b)) p l e R s m args below meth c nL k n Q q L st) : KW E T V p l e R s m args below meth c nL k n Q pc L (.ref b :: .int i :: .ref a :: st) := by
  subst hq
  intro H ls locs hR hS hl
  have hlt : i.toNatClampNeg < N := Nat.not_le.mp fun z => hin (Or.inr z)
  have h0 : ¬ i < 0 := fun z => hin (Or.inl z)
  have hP := hR.one ht
  obtain ⟨r', hr', cellV, g1, g2, g3, -⟩ := (hR.2 b _ hb).2
  have hcls := (C.K.1 1 _ rfl).2
  obtain ⟨kA, comp, k1, k2, k3, -⟩ := (C.K.2 2 _ rfl).2
  have hcomp : comp = E.1.1 1 := Option.some.inj (k3.symm.trans hcls.1)
  subst hcomp
  obtain ⟨kC, hkC, -⟩ := hcls.2
  refine W.aast C.x C.b (hP 0 _ rfl) (fun z h => by cases h) (fun h => by cases h) k1 k2 rfl hkC ⟨h0, by show _ < (arrV _ _ _).slots.size; rw [arrV_size]; exact hlt⟩ g1 (fun z h => by rw [g3] at h; cases h) (by rw [g2]; exact hkC) (by rw [g2]; exact va_assign hcls) rfl rfl hd fun H1 e z oq => ?_
  refine K H1 ls _ (hR.put z oq wR_off fun k2 hk2 => ?_) (hS.put z oq (hR.2 a _ ht).1) hl
  have hk3 : k2 = .inl (2, N) := Option.some.inj (hk2.symm.trans ht)
  subst hk3
  show H1[a]? = some (vp_cell _ _)
  rw [e]
  simp only [ent, arrv, vp_cell_q]
  rw [arrV_store]
  congr 2
  funext j
  by_cases hj : j = i.toNatClampNeg
  · subst hj
    simp [updV, wR, va_up, va_rf]
  · simp [updV, wR, va_up, hj]
theorem k_aast3 (pc q : Nat) (C : Cx E p s m args meth c own cc nL ret) {a N b : Nat} {i : Int32} (hd : decode cc pc = .ok (.aastore, 1)) (hq : pc + 1 = q) (ht : tA T a 3 N) (hb : tO T b 0) (hin : vp_in i N) (K : KW E T (wR V a i.toNatClampNeg (some b)) p l e R s m args below meth c nL k n Q q L st) : KW E T V p l e R s m args below meth c nL k n Q pc L (.ref b :: .int i :: .ref a :: st) := by
  subst hq
  intro H ls locs hR hS hl
  have hlt : i.toNatClampNeg < N := Nat.not_le.mp fun z => hin (Or.inr z)
  have h0 : ¬ i < 0 := fun z => hin (Or.inl z)
  have hP := hR.one ht
  obtain ⟨r', hr', cellV, g1, g2, g3, -⟩ := (hR.2 b _ hb).2
  have hcls := (C.K.1 0 _ rfl).2
  obtain ⟨kA, comp, k1, k2, k3, -⟩ := (C.K.2 3 _ rfl).2
  have hcomp : comp = E.1.1 0 := Option.some.inj (k3.symm.trans hcls.1)
  subst hcomp
  obtain ⟨kC, hkC, -⟩ := hcls.2
  refine W.aast C.x C.b (hP 0 _ rfl) (fun z h => by cases h) (fun h => by cases h) k1 k2 rfl hkC ⟨h0, by show _ < (arrV _ _ _).slots.size; rw [arrV_size]; exact hlt⟩ g1 (fun z h => by rw [g3] at h; cases h) (by rw [g2]; exact hkC) (by rw [g2]; exact va_assign hcls) rfl rfl hd fun H1 e z oq => ?_
  refine K H1 ls _ (hR.put z oq wR_off fun k2 hk2 => ?_) (hS.put z oq (hR.2 a _ ht).1) hl
  have hk3 : k2 = .inl (3, N) := Option.some.inj (hk2.symm.trans ht)
  subst hk3
  show H1[a]? = some (vp_cell _ _)
  rw [e]
  simp only [ent, arrv, vp_cell_q]
  rw [arrV_store]
  congr 2
  funext j
  by_cases hj : j = i.toNatClampNeg
  · subst hj
    simp [updV, wR, va_up, va_rf]
  · simp [updV, wR, va_up, hj]
theorem k_gets0 (pc q : Nat) (C : Cx E p s m args meth c own cc nL ret) {ix : Nat} (hd : decode cc pc = .ok (.getstatic ix, 3)) (hq : pc + 3 = q) (hw : Cond.fieldLink own ix "PantographArm" "LEAST_SETTING" "[I" ∈ GW) (K : KW E T V p l e R s m args below meth c nL k n Q q L (.ref (E.2.2.2 0) :: st)) : KW E T V p l e R s m args below meth c nL k n Q pc L st := by
  subst hq
  intro H ls locs hR hS hl
  exact va_gets C.x C.b C.st.1.1 hS C.ow (C.ts _ hw) (fun _ h => h) hd (K H ls locs hR hS hl)
theorem k_slen0 (pc q : Nat) (C : Cx E p s m args meth c own cc nL ret) (hd : decode cc pc = .ok (.arraylength, 1)) (hq : pc + 1 = q) (K : KW E T V p l e R s m args below meth c nL k n Q q L (.int 5 :: st)) : KW E T V p l e R s m args below meth c nL k n Q pc L (.ref (E.2.2.2 0) :: st) := by
  subst hq
  intro H ls locs hR hS hl
  exact va_slen C.x C.b C.st.1.2.1 (Nat.lt_of_lt_of_le C.st.1.2.2 C.bs) (Nat.not_le.mpr C.st.1.2.2) hS hd (K H ls locs hR hS hl)
theorem k_sald0 (pc q : Nat) (C : Cx E p s m args meth c own cc nL ret) {i : Int32} (hd : decode cc pc = .ok (.iaload, 1)) (hq : pc + 1 = q) (hin : vp_in i 5) (K : KW E T V p l e R s m args below meth c nL k n Q q L (.int (leastv i.toNatClampNeg) :: st)) : KW E T V p l e R s m args below meth c nL k n Q pc L (.int i :: .ref (E.2.2.2 0) :: st) := by
  subst hq
  intro H ls locs hR hS hl
  exact va_sld C.x C.b C.st.1.2.1 (Nat.lt_of_lt_of_le C.st.1.2.2 C.bs) (Nat.not_le.mpr C.st.1.2.2) hS hin hd (K H ls locs hR hS hl)
theorem k_gets1 (pc q : Nat) (C : Cx E p s m args meth c own cc nL ret) {ix : Nat} (hd : decode cc pc = .ok (.getstatic ix, 3)) (hq : pc + 3 = q) (hw : Cond.fieldLink own ix "PantographArm" "MOST_SETTING" "[I" ∈ GW) (K : KW E T V p l e R s m args below meth c nL k n Q q L (.ref (E.2.2.2 1) :: st)) : KW E T V p l e R s m args below meth c nL k n Q pc L st := by
  subst hq
  intro H ls locs hR hS hl
  exact va_gets C.x C.b C.st.2.1.1 hS C.ow (C.ts _ hw) (fun _ h => h) hd (K H ls locs hR hS hl)
theorem k_slen1 (pc q : Nat) (C : Cx E p s m args meth c own cc nL ret) (hd : decode cc pc = .ok (.arraylength, 1)) (hq : pc + 1 = q) (K : KW E T V p l e R s m args below meth c nL k n Q q L (.int 5 :: st)) : KW E T V p l e R s m args below meth c nL k n Q pc L (.ref (E.2.2.2 1) :: st) := by
  subst hq
  intro H ls locs hR hS hl
  exact va_slen C.x C.b C.st.2.1.2.1 (Nat.lt_of_lt_of_le C.st.2.1.2.2 C.bs) (Nat.not_le.mpr C.st.2.1.2.2) hS hd (K H ls locs hR hS hl)
theorem k_sald1 (pc q : Nat) (C : Cx E p s m args meth c own cc nL ret) {i : Int32} (hd : decode cc pc = .ok (.iaload, 1)) (hq : pc + 1 = q) (hin : vp_in i 5) (K : KW E T V p l e R s m args below meth c nL k n Q q L (.int (mostv i.toNatClampNeg) :: st)) : KW E T V p l e R s m args below meth c nL k n Q pc L (.int i :: .ref (E.2.2.2 1) :: st) := by
  subst hq
  intro H ls locs hR hS hl
  exact va_sld C.x C.b C.st.2.1.2.1 (Nat.lt_of_lt_of_le C.st.2.1.2.2 C.bs) (Nat.not_le.mpr C.st.2.1.2.2) hS hin hd (K H ls locs hR hS hl)
theorem k_gets2 (pc q : Nat) (C : Cx E p s m args meth c own cc nL ret) {ix : Nat} (hd : decode cc pc = .ok (.getstatic ix, 3)) (hq : pc + 3 = q) (hw : Cond.fieldLink own ix "PantographArm" "FIRST_SETTING" "[I" ∈ GW) (K : KW E T V p l e R s m args below meth c nL k n Q q L (.ref (E.2.2.2 2) :: st)) : KW E T V p l e R s m args below meth c nL k n Q pc L st := by
  subst hq
  intro H ls locs hR hS hl
  exact va_gets C.x C.b C.st.2.2.1 hS C.ow (C.ts _ hw) (fun _ h => h) hd (K H ls locs hR hS hl)
theorem k_slen2 (pc q : Nat) (C : Cx E p s m args meth c own cc nL ret) (hd : decode cc pc = .ok (.arraylength, 1)) (hq : pc + 1 = q) (K : KW E T V p l e R s m args below meth c nL k n Q q L (.int 5 :: st)) : KW E T V p l e R s m args below meth c nL k n Q pc L (.ref (E.2.2.2 2) :: st) := by
  subst hq
  intro H ls locs hR hS hl
  exact va_slen C.x C.b C.st.2.2.2.1 (Nat.lt_of_lt_of_le C.st.2.2.2.2 C.bs) (Nat.not_le.mpr C.st.2.2.2.2) hS hd (K H ls locs hR hS hl)
theorem k_sald2 (pc q : Nat) (C : Cx E p s m args meth c own cc nL ret) {i : Int32} (hd : decode cc pc = .ok (.iaload, 1)) (hq : pc + 1 = q) (hin : vp_in i 5) (K : KW E T V p l e R s m args below meth c nL k n Q q L (.int (firstv i.toNatClampNeg) :: st)) : KW E T V p l e R s m args below meth c nL k n Q pc L (.int i :: .ref (E.2.2.2 2) :: st) := by
  subst hq
  intro H ls locs hR hS hl
  exact va_sld C.x C.b C.st.2.2.2.1 (Nat.lt_of_lt_of_le C.st.2.2.2.2 C.bs) (Nat.not_le.mpr C.st.2.2.2.2) hS hin hd (K H ls locs hR hS hl)
theorem k_absl (pc q : Nat) (C : Cx E p s m args meth c own cc nL ret) {ix : Nat} {x : Int64} (hd : decode cc pc = .ok (.invokestatic ix, 3)) (hq : pc + 3 = q) (hw : Cond.methodLink own ix Lib.MathLoose.abs_long.x ∈ GW) (hf : 1 ≤ R.frames) (hlo : (st.map fun v => v.category).sum + 13 ≤ R.locals) (hk : k ≤ R.cells) (hn : n ≤ R.slots) (K : KW E T V p l e R s m args below meth c nL k n Q q L (.long (if 0 < x then x else -x) :: st)) : KW E T V p l e R s m args below meth c nL k n Q pc L (.long x :: st) := by
  subst hq
  intro H ls locs hR hS hl
  exact va_mabs_long C.x C.b (C.ml.trans hl.1.symm) C.ow (C.ts _ hw) (C.ts _ st_m_Lib_MathLoose_abs_long_x) (C.ts _ ini_java_lang_Math) (C.ts _ cd_m_Lib_MathLoose_abs_long_x) hf hlo hk hn hd (K H ls locs hR hS hl)
theorem k_max (pc q : Nat) (C : Cx E p s m args meth c own cc nL ret) {ix : Nat} {x y : Int32} (hd : decode cc pc = .ok (.invokestatic ix, 3)) (hq : pc + 3 = q) (hw : Cond.methodLink own ix Lib.Math.max.name ∈ GW) (hf : 1 ≤ R.frames) (hlo : (st.map fun v => v.category).sum + 13 ≤ R.locals) (hk : k ≤ R.cells) (hn : n ≤ R.slots) (K : KW E T V p l e R s m args below meth c nL k n Q q L (.int (if x < y then y else x) :: st)) : KW E T V p l e R s m args below meth c nL k n Q pc L (.int y :: .int x :: st) := by
  subst hq
  intro H ls locs hR hS hl
  exact va_mmax C.x C.b (C.ml.trans hl.1.symm) C.ow (C.ts _ hw) (C.ts _ st_m_Lib_Math_max_name) (C.ts _ ini_java_lang_Math) (C.ts _ cd_m_Lib_Math_max_name) hf hlo hk hn hd (K H ls locs hR hS hl)
theorem k_min (pc q : Nat) (C : Cx E p s m args meth c own cc nL ret) {ix : Nat} {x y : Int32} (hd : decode cc pc = .ok (.invokestatic ix, 3)) (hq : pc + 3 = q) (hw : Cond.methodLink own ix Lib.Math.min.name ∈ GW) (hf : 1 ≤ R.frames) (hlo : (st.map fun v => v.category).sum + 13 ≤ R.locals) (hk : k ≤ R.cells) (hn : n ≤ R.slots) (K : KW E T V p l e R s m args below meth c nL k n Q q L (.int (if y < x then y else x) :: st)) : KW E T V p l e R s m args below meth c nL k n Q pc L (.int y :: .int x :: st) := by
  subst hq
  intro H ls locs hR hS hl
  exact va_mmin C.x C.b (C.ml.trans hl.1.symm) C.ow (C.ts _ hw) (C.ts _ st_m_Lib_Math_min_name) (C.ts _ ini_java_lang_Math) (C.ts _ cd_m_Lib_Math_min_name) hf hlo hk hn hd (K H ls locs hR hS hl)
end KWS
end
section
def gw (y : MethodName) (cc : ByteArray) (maxL : Nat) (ret : Option FieldType) : List Cond := .code y cc maxL ret :: GW
/-- what the tables say of a method -/
def MI (y : MethodName) (cc : ByteArray) (maxL : Nat) (ret : Option FieldType) (N : Nat) : Prop := Cond.code y cc maxL ret ∈ GW ∧ Cond.initialized y.cls ∈ GW ∧ y.cls ≠ "java/lang/invoke/MethodHandle" ∧ y.cls ≠ "java/lang/invoke/VarHandle" ∧ (parseMethodDescriptor y.desc).map (fun d => d.parameters.length) = some N
theorem gw_in {y : MethodName} {cc : ByteArray} {maxL : Nat} {ret : Option FieldType} {N : Nat} (I : MI y cc maxL ret N) : GoodIn GW (gw y cc maxL ret) := by
  intro w h
  rcases List.mem_cons.mp h with rfl | h
  · exact gw_good _ I.1
  · exact gw_good _ h
section CTS
variable {E : gE} {T : gT} {V : gV} {p : Program} {l : Launch} {e : Env} {R : Room} {s : State} {m : MethodId} {args : Array Value} {below : List Frame} {meth : Method} {c : Code} {own : String} {cc : ByteArray} {nL : Nat} {ret : Option FieldType} {k n : Nat} {Q : State → Prop} {L : List (Nat × Value)} {st : List Value}
theorem Cx.cb (C : Cx E p s m args meth c own cc nL ret) {y : MethodName} {cc' : ByteArray} {maxL : Nat} {ret' : Option FieldType} {N ix mc ms : Nat} {rm : Room} (I : MI y cc' maxL ret' N) (hw : Cond.methodLink own ix y ∈ GW) (hrc : rm.cells = mc) (hrs : rm.slots = ms) (hR : rm.frames + 1 ≤ R.frames ∧ 8 + (maxL + 11) + rm.locals ≤ R.locals) : CallB R s args own ix y cc' maxL ret' (gw y cc' maxL ret') rm mc ms N :=
  callB_of N C.ts (gw_in I) rfl hrc hrs (C.ts _ I.2.1) (C.ts _ hw) ⟨I.2.2.1, I.2.2.2.1, I.2.2.2.2⟩ hR
theorem Cx.pre (C : Cx E p s m args meth c own cc nL ret) {H : Heap} {locs : List Loc} (hR : Rep E T V H) (hS : va_S (gA E) s.heap H locs) {av : List Value} : PreS s H (va_Pc av (RepS E T V)) av :=
  ⟨RepS.blind, fun U hU hW => ⟨rfl, C.out hS hR hU hW.alike⟩⟩
theorem Cx.preV (C : Cx E p s m args meth c own cc nL ret) {H : Heap} {locs : List Loc} (hR : Rep E T V H) (hS : va_S (gA E) s.heap H locs) {b ci N : Nat} {Cn : String} {Tt : u_T} {ty : Nat → FieldType} (I : CI ci Cn Tt N ty) (hb : tO T b ci) {As : List Value} : PreV s H Cn b (va_Pc (.ref b :: As) (RepS E T V)) As :=
  ⟨RepS.blind, va_recv (q := (Cn, Tt, N)) C.K (hR.one hb) I.1 (q0 := 0) rfl, fun U hU hW => ⟨rfl, C.out hS hR hU hW.alike⟩⟩

def CtI (E : gE) (T : gT) (l : Launch) (y : MethodName) (ws : List Cond) (rm : Room) (av : List Value) (V : gV) (Post : Int32 → gV → Prop) : Prop := Met l y ws rm (va_Pc av (RepS E T V)) (va_Qi Post (RepS E T) (gA E)) 0 0 (gA E)
theorem ctI_of {E : gE} {T : gT} {l : Launch} {y : MethodName} {rm : Room} {av : List Value} {V : gV} {Post : Int32 → gV → Prop} {maxL : Nat} {own : String} {cc : ByteArray} {ret : Option FieldType} (hy : plainName y.cls = true) (ho : y.cls = own) (hlen : (lg_sl av).length ≤ maxL) {L : List (Nat × Value)} (hL : lv_args 0 av = L)
    (body : ∀ (p : Program) (e : Env) (s : State) (m : MethodId) (args : Array Value) (below : List Frame) (meth : Method) (c : Code), Cx E p s m args meth c own cc maxL ret → KW E T V p l e rm s m args below meth c maxL 0 0 (MQ below (va_Qi Post (RepS E T) (gA E)) args s 0 0 (gA E)) 0 L []) : CtI E T l y (gw y cc maxL ret) rm av V Post := by
  refine Met.ofW (cc := cc) (maxL := maxL) (ret := ret) hy rfl ?_
  intro p e s m args below meth c s₁ B hml hv
  obtain ⟨rfl, h1, h2, h3, h4, h5, h6⟩ := hv
  have hts : ∀ w ∈ GW, w.before av.toArray s = true := fun w h => atoms_spec (ws := gw y cc maxL ret) B.pre w (List.mem_cons_of_mem _ h)
  have C : Cx E p s m av.toArray meth c own cc maxL ret := ⟨B.exec, B.bytes, hml, by rw [← ho]; exact findClass_of_methodNamed B.named, hts, B.notSynchronized, h3, h4, h5, h6, h2, B.returns⟩
  have hl := lv_entry av (n := maxL) hlen
  rw [lg_entry_eq]
  exact body p e s m _ below meth c C s.heap _ [] h1 va_S.rf (hL ▸ hl)
theorem k_callVI (pc q : Nat) (C : Cx E p s m args meth c own cc nL ret) {y : MethodName} {cc' : ByteArray} {maxL N ix : Nat} {ret' : Option FieldType} {f lo : Nat} {b ci Nf : Nat} {Cn : String} {Tt : u_T} {ty : Nat → FieldType} {Post : Int32 → gV → Prop} (As rest : List Value) (hd : decode cc pc = .ok (.invokevirtual ix, 3)) (hq : pc + 3 = q) (hM : CtI E T l y (gw y cc' maxL ret') { frames := f, cells := 0, slots := 0, locals := lo } (.ref b :: As) V Post) (I : MI y cc' maxL ret' N) (hw : Cond.methodLink own ix y ∈ GW) (hin : Cond.instanceMethod y ∈ GW) (hse : Cond.selects Cn y y ∈ GW) (Ic : CI ci Cn Tt Nf ty) (hb : tO T b ci) (hn : As.length = N) (hst : st = As.reverse ++ .ref b :: rest) (hroom : f + 1 ≤ R.frames ∧ 8 + (maxL + 11) + lo ≤ R.locals) (hcat : (rest.map fun v => v.category).sum ≤ 8) (hk0 : k ≤ R.cells) (hn0 : n ≤ R.slots)
    (kk : ∀ (r : Int32) (V' : gV), Post r V' → KW E T V' p l e R s m args below meth c nL k n Q q L (.int r :: rest)) : KW E T V p l e R s m args below meth c nL k n Q pc L st := by
  subst hq
  intro H ls locs hR hS hl
  refine va_calli (va_runV (As := As) (rest := rest) ⟨C.x, C.b, C.ml, C.ow, C.ts⟩ hM ⟨C.cb I hw rfl rfl hroom, C.ts _ hin, C.ts _ hse⟩ (C.preV hR hS Ic hb) rfl hn hl.1 hst (lv_room hcat) hd ⟨hk0, hn0⟩) hS (fun q _ h => h) (fun q h => h) (fun r u t H1 locs1 ht hvm hw hB hz1 hk1 hS1 => ?_)
  exact kk r u hw H1 ls locs1 (ht ▸ hB.1) hS1 hl
theorem k_callSI (pc q : Nat) (C : Cx E p s m args meth c own cc nL ret) {y : MethodName} {cc' : ByteArray} {maxL N ix : Nat} {ret' : Option FieldType} {f lo : Nat}  {Post : Int32 → gV → Prop} (As rest : List Value) (hd : decode cc pc = .ok (.invokestatic ix, 3)) (hq : pc + 3 = q) (hM : CtI E T l y (gw y cc' maxL ret') { frames := f, cells := 0, slots := 0, locals := lo } As V Post) (I : MI y cc' maxL ret' N) (hw : Cond.methodLink own ix y ∈ GW) (hstt : Cond.static y ∈ GW) (hn : As.length = N) (hst : st = As.reverse ++ rest) (hroom : f + 1 ≤ R.frames ∧ 8 + (maxL + 11) + lo ≤ R.locals) (hcat : (rest.map fun v => v.category).sum ≤ 8) (hk0 : k ≤ R.cells) (hn0 : n ≤ R.slots)
    (kk : ∀ (r : Int32) (V' : gV), Post r V' → KW E T V' p l e R s m args below meth c nL k n Q q L (.int r :: rest)) : KW E T V p l e R s m args below meth c nL k n Q pc L st := by
  subst hq
  intro H ls locs hR hS hl
  refine va_calli (va_runS (As := As) (rest := rest) ⟨C.x, C.b, C.ml, C.ow, C.ts⟩ hM ⟨C.cb I hw rfl rfl hroom, C.ts _ hstt⟩ (C.pre hR hS) rfl hn hl.1 hst (lv_room hcat) hd ⟨hk0, hn0⟩) hS (fun q _ h => h) (fun q h => h) (fun r u t H1 locs1 ht hvm hw hB hz1 hk1 hS1 => ?_)
  exact kk r u hw H1 ls locs1 (ht ▸ hB.1) hS1 hl
def CtL (E : gE) (T : gT) (l : Launch) (y : MethodName) (ws : List Cond) (rm : Room) (av : List Value) (V : gV) (Post : Int64 → gV → Prop) : Prop := Met l y ws rm (va_Pc av (RepS E T V)) (va_Ql Post (RepS E T) (gA E)) 0 0 (gA E)
theorem ctL_of {E : gE} {T : gT} {l : Launch} {y : MethodName} {rm : Room} {av : List Value} {V : gV} {Post : Int64 → gV → Prop} {maxL : Nat} {own : String} {cc : ByteArray} {ret : Option FieldType} (hy : plainName y.cls = true) (ho : y.cls = own) (hlen : (lg_sl av).length ≤ maxL) {L : List (Nat × Value)} (hL : lv_args 0 av = L)
    (body : ∀ (p : Program) (e : Env) (s : State) (m : MethodId) (args : Array Value) (below : List Frame) (meth : Method) (c : Code), Cx E p s m args meth c own cc maxL ret → KW E T V p l e rm s m args below meth c maxL 0 0 (MQ below (va_Ql Post (RepS E T) (gA E)) args s 0 0 (gA E)) 0 L []) : CtL E T l y (gw y cc maxL ret) rm av V Post := by
  refine Met.ofW (cc := cc) (maxL := maxL) (ret := ret) hy rfl ?_
  intro p e s m args below meth c s₁ B hml hv
  obtain ⟨rfl, h1, h2, h3, h4, h5, h6⟩ := hv
  have hts : ∀ w ∈ GW, w.before av.toArray s = true := fun w h => atoms_spec (ws := gw y cc maxL ret) B.pre w (List.mem_cons_of_mem _ h)
  have C : Cx E p s m av.toArray meth c own cc maxL ret := ⟨B.exec, B.bytes, hml, by rw [← ho]; exact findClass_of_methodNamed B.named, hts, B.notSynchronized, h3, h4, h5, h6, h2, B.returns⟩
  have hl := lv_entry av (n := maxL) hlen
  rw [lg_entry_eq]
  exact body p e s m _ below meth c C s.heap _ [] h1 va_S.rf (hL ▸ hl)
theorem k_callVL (pc q : Nat) (C : Cx E p s m args meth c own cc nL ret) {y : MethodName} {cc' : ByteArray} {maxL N ix : Nat} {ret' : Option FieldType} {f lo : Nat} {b ci Nf : Nat} {Cn : String} {Tt : u_T} {ty : Nat → FieldType} {Post : Int64 → gV → Prop} (As rest : List Value) (hd : decode cc pc = .ok (.invokevirtual ix, 3)) (hq : pc + 3 = q) (hM : CtL E T l y (gw y cc' maxL ret') { frames := f, cells := 0, slots := 0, locals := lo } (.ref b :: As) V Post) (I : MI y cc' maxL ret' N) (hw : Cond.methodLink own ix y ∈ GW) (hin : Cond.instanceMethod y ∈ GW) (hse : Cond.selects Cn y y ∈ GW) (Ic : CI ci Cn Tt Nf ty) (hb : tO T b ci) (hn : As.length = N) (hst : st = As.reverse ++ .ref b :: rest) (hroom : f + 1 ≤ R.frames ∧ 8 + (maxL + 11) + lo ≤ R.locals) (hcat : (rest.map fun v => v.category).sum ≤ 8) (hk0 : k ≤ R.cells) (hn0 : n ≤ R.slots)
    (kk : ∀ (r : Int64) (V' : gV), Post r V' → KW E T V' p l e R s m args below meth c nL k n Q q L (.long r :: rest)) : KW E T V p l e R s m args below meth c nL k n Q pc L st := by
  subst hq
  intro H ls locs hR hS hl
  refine va_calll (va_runV (As := As) (rest := rest) ⟨C.x, C.b, C.ml, C.ow, C.ts⟩ hM ⟨C.cb I hw rfl rfl hroom, C.ts _ hin, C.ts _ hse⟩ (C.preV hR hS Ic hb) rfl hn hl.1 hst (lv_room hcat) hd ⟨hk0, hn0⟩) hS (fun q _ h => h) (fun q h => h) (fun r u t H1 locs1 ht hvm hw hB hz1 hk1 hS1 => ?_)
  exact kk r u hw H1 ls locs1 (ht ▸ hB.1) hS1 hl
theorem k_callSL (pc q : Nat) (C : Cx E p s m args meth c own cc nL ret) {y : MethodName} {cc' : ByteArray} {maxL N ix : Nat} {ret' : Option FieldType} {f lo : Nat}  {Post : Int64 → gV → Prop} (As rest : List Value) (hd : decode cc pc = .ok (.invokestatic ix, 3)) (hq : pc + 3 = q) (hM : CtL E T l y (gw y cc' maxL ret') { frames := f, cells := 0, slots := 0, locals := lo } As V Post) (I : MI y cc' maxL ret' N) (hw : Cond.methodLink own ix y ∈ GW) (hstt : Cond.static y ∈ GW) (hn : As.length = N) (hst : st = As.reverse ++ rest) (hroom : f + 1 ≤ R.frames ∧ 8 + (maxL + 11) + lo ≤ R.locals) (hcat : (rest.map fun v => v.category).sum ≤ 8) (hk0 : k ≤ R.cells) (hn0 : n ≤ R.slots)
    (kk : ∀ (r : Int64) (V' : gV), Post r V' → KW E T V' p l e R s m args below meth c nL k n Q q L (.long r :: rest)) : KW E T V p l e R s m args below meth c nL k n Q pc L st := by
  subst hq
  intro H ls locs hR hS hl
  refine va_calll (va_runS (As := As) (rest := rest) ⟨C.x, C.b, C.ml, C.ow, C.ts⟩ hM ⟨C.cb I hw rfl rfl hroom, C.ts _ hstt⟩ (C.pre hR hS) rfl hn hl.1 hst (lv_room hcat) hd ⟨hk0, hn0⟩) hS (fun q _ h => h) (fun q h => h) (fun r u t H1 locs1 ht hvm hw hB hz1 hk1 hS1 => ?_)
  exact kk r u hw H1 ls locs1 (ht ▸ hB.1) hS1 hl
def CtF (E : gE) (T : gT) (l : Launch) (y : MethodName) (ws : List Cond) (rm : Room) (av : List Value) (V : gV) (Post : UInt32 → gV → Prop) : Prop := Met l y ws rm (va_Pc av (RepS E T V)) (va_Qf Post (RepS E T) (gA E)) 0 0 (gA E)
theorem ctF_of {E : gE} {T : gT} {l : Launch} {y : MethodName} {rm : Room} {av : List Value} {V : gV} {Post : UInt32 → gV → Prop} {maxL : Nat} {own : String} {cc : ByteArray} {ret : Option FieldType} (hy : plainName y.cls = true) (ho : y.cls = own) (hlen : (lg_sl av).length ≤ maxL) {L : List (Nat × Value)} (hL : lv_args 0 av = L)
    (body : ∀ (p : Program) (e : Env) (s : State) (m : MethodId) (args : Array Value) (below : List Frame) (meth : Method) (c : Code), Cx E p s m args meth c own cc maxL ret → KW E T V p l e rm s m args below meth c maxL 0 0 (MQ below (va_Qf Post (RepS E T) (gA E)) args s 0 0 (gA E)) 0 L []) : CtF E T l y (gw y cc maxL ret) rm av V Post := by
  refine Met.ofW (cc := cc) (maxL := maxL) (ret := ret) hy rfl ?_
  intro p e s m args below meth c s₁ B hml hv
  obtain ⟨rfl, h1, h2, h3, h4, h5, h6⟩ := hv
  have hts : ∀ w ∈ GW, w.before av.toArray s = true := fun w h => atoms_spec (ws := gw y cc maxL ret) B.pre w (List.mem_cons_of_mem _ h)
  have C : Cx E p s m av.toArray meth c own cc maxL ret := ⟨B.exec, B.bytes, hml, by rw [← ho]; exact findClass_of_methodNamed B.named, hts, B.notSynchronized, h3, h4, h5, h6, h2, B.returns⟩
  have hl := lv_entry av (n := maxL) hlen
  rw [lg_entry_eq]
  exact body p e s m _ below meth c C s.heap _ [] h1 va_S.rf (hL ▸ hl)
theorem k_callVF (pc q : Nat) (C : Cx E p s m args meth c own cc nL ret) {y : MethodName} {cc' : ByteArray} {maxL N ix : Nat} {ret' : Option FieldType} {f lo : Nat} {b ci Nf : Nat} {Cn : String} {Tt : u_T} {ty : Nat → FieldType} {Post : UInt32 → gV → Prop} (As rest : List Value) (hd : decode cc pc = .ok (.invokevirtual ix, 3)) (hq : pc + 3 = q) (hM : CtF E T l y (gw y cc' maxL ret') { frames := f, cells := 0, slots := 0, locals := lo } (.ref b :: As) V Post) (I : MI y cc' maxL ret' N) (hw : Cond.methodLink own ix y ∈ GW) (hin : Cond.instanceMethod y ∈ GW) (hse : Cond.selects Cn y y ∈ GW) (Ic : CI ci Cn Tt Nf ty) (hb : tO T b ci) (hn : As.length = N) (hst : st = As.reverse ++ .ref b :: rest) (hroom : f + 1 ≤ R.frames ∧ 8 + (maxL + 11) + lo ≤ R.locals) (hcat : (rest.map fun v => v.category).sum ≤ 8) (hk0 : k ≤ R.cells) (hn0 : n ≤ R.slots)
    (kk : ∀ (r : UInt32) (V' : gV), Post r V' → KW E T V' p l e R s m args below meth c nL k n Q q L (.float r :: rest)) : KW E T V p l e R s m args below meth c nL k n Q pc L st := by
  subst hq
  intro H ls locs hR hS hl
  refine va_callf (va_runV (As := As) (rest := rest) ⟨C.x, C.b, C.ml, C.ow, C.ts⟩ hM ⟨C.cb I hw rfl rfl hroom, C.ts _ hin, C.ts _ hse⟩ (C.preV hR hS Ic hb) rfl hn hl.1 hst (lv_room hcat) hd ⟨hk0, hn0⟩) hS (fun q _ h => h) (fun q h => h) (fun r u t H1 locs1 ht hvm hw hB hz1 hk1 hS1 => ?_)
  exact kk r u hw H1 ls locs1 (ht ▸ hB.1) hS1 hl
theorem k_callSF (pc q : Nat) (C : Cx E p s m args meth c own cc nL ret) {y : MethodName} {cc' : ByteArray} {maxL N ix : Nat} {ret' : Option FieldType} {f lo : Nat}  {Post : UInt32 → gV → Prop} (As rest : List Value) (hd : decode cc pc = .ok (.invokestatic ix, 3)) (hq : pc + 3 = q) (hM : CtF E T l y (gw y cc' maxL ret') { frames := f, cells := 0, slots := 0, locals := lo } As V Post) (I : MI y cc' maxL ret' N) (hw : Cond.methodLink own ix y ∈ GW) (hstt : Cond.static y ∈ GW) (hn : As.length = N) (hst : st = As.reverse ++ rest) (hroom : f + 1 ≤ R.frames ∧ 8 + (maxL + 11) + lo ≤ R.locals) (hcat : (rest.map fun v => v.category).sum ≤ 8) (hk0 : k ≤ R.cells) (hn0 : n ≤ R.slots)
    (kk : ∀ (r : UInt32) (V' : gV), Post r V' → KW E T V' p l e R s m args below meth c nL k n Q q L (.float r :: rest)) : KW E T V p l e R s m args below meth c nL k n Q pc L st := by
  subst hq
  intro H ls locs hR hS hl
  refine va_callf (va_runS (As := As) (rest := rest) ⟨C.x, C.b, C.ml, C.ow, C.ts⟩ hM ⟨C.cb I hw rfl rfl hroom, C.ts _ hstt⟩ (C.pre hR hS) rfl hn hl.1 hst (lv_room hcat) hd ⟨hk0, hn0⟩) hS (fun q _ h => h) (fun q h => h) (fun r u t H1 locs1 ht hvm hw hB hz1 hk1 hS1 => ?_)
  exact kk r u hw H1 ls locs1 (ht ▸ hB.1) hS1 hl
def CtQ (E : gE) (T : gT) (l : Launch) (y : MethodName) (ws : List Cond) (rm : Room) (av : List Value) (V : gV) (Post : Option Nat → gV → Prop) : Prop := Met l y ws rm (va_Pc av (RepS E T V)) (va_Qq Post (RepS E T) (gA E)) 0 0 (gA E)
theorem ctQ_of {E : gE} {T : gT} {l : Launch} {y : MethodName} {rm : Room} {av : List Value} {V : gV} {Post : Option Nat → gV → Prop} {maxL : Nat} {own : String} {cc : ByteArray} {ret : Option FieldType} (hy : plainName y.cls = true) (ho : y.cls = own) (hlen : (lg_sl av).length ≤ maxL) {L : List (Nat × Value)} (hL : lv_args 0 av = L)
    (body : ∀ (p : Program) (e : Env) (s : State) (m : MethodId) (args : Array Value) (below : List Frame) (meth : Method) (c : Code), Cx E p s m args meth c own cc maxL ret → KW E T V p l e rm s m args below meth c maxL 0 0 (MQ below (va_Qq Post (RepS E T) (gA E)) args s 0 0 (gA E)) 0 L []) : CtQ E T l y (gw y cc maxL ret) rm av V Post := by
  refine Met.ofW (cc := cc) (maxL := maxL) (ret := ret) hy rfl ?_
  intro p e s m args below meth c s₁ B hml hv
  obtain ⟨rfl, h1, h2, h3, h4, h5, h6⟩ := hv
  have hts : ∀ w ∈ GW, w.before av.toArray s = true := fun w h => atoms_spec (ws := gw y cc maxL ret) B.pre w (List.mem_cons_of_mem _ h)
  have C : Cx E p s m av.toArray meth c own cc maxL ret := ⟨B.exec, B.bytes, hml, by rw [← ho]; exact findClass_of_methodNamed B.named, hts, B.notSynchronized, h3, h4, h5, h6, h2, B.returns⟩
  have hl := lv_entry av (n := maxL) hlen
  rw [lg_entry_eq]
  exact body p e s m _ below meth c C s.heap _ [] h1 va_S.rf (hL ▸ hl)
theorem k_callVQ (pc q : Nat) (C : Cx E p s m args meth c own cc nL ret) {y : MethodName} {cc' : ByteArray} {maxL N ix : Nat} {ret' : Option FieldType} {f lo : Nat} {b ci Nf : Nat} {Cn : String} {Tt : u_T} {ty : Nat → FieldType} {Post : Option Nat → gV → Prop} (As rest : List Value) (hd : decode cc pc = .ok (.invokevirtual ix, 3)) (hq : pc + 3 = q) (hM : CtQ E T l y (gw y cc' maxL ret') { frames := f, cells := 0, slots := 0, locals := lo } (.ref b :: As) V Post) (I : MI y cc' maxL ret' N) (hw : Cond.methodLink own ix y ∈ GW) (hin : Cond.instanceMethod y ∈ GW) (hse : Cond.selects Cn y y ∈ GW) (Ic : CI ci Cn Tt Nf ty) (hb : tO T b ci) (hn : As.length = N) (hst : st = As.reverse ++ .ref b :: rest) (hroom : f + 1 ≤ R.frames ∧ 8 + (maxL + 11) + lo ≤ R.locals) (hcat : (rest.map fun v => v.category).sum ≤ 8) (hk0 : k ≤ R.cells) (hn0 : n ≤ R.slots)
    (kk : ∀ (r : Option Nat) (V' : gV), Post r V' → KW E T V' p l e R s m args below meth c nL k n Q q L (va_rf r :: rest)) : KW E T V p l e R s m args below meth c nL k n Q pc L st := by
  subst hq
  intro H ls locs hR hS hl
  refine va_callq (va_runV (As := As) (rest := rest) ⟨C.x, C.b, C.ml, C.ow, C.ts⟩ hM ⟨C.cb I hw rfl rfl hroom, C.ts _ hin, C.ts _ hse⟩ (C.preV hR hS Ic hb) rfl hn hl.1 hst (lv_room hcat) hd ⟨hk0, hn0⟩) hS (fun q _ h => h) (fun q h => h) (fun r u t H1 locs1 ht hvm hw hB hz1 hk1 hS1 => ?_)
  exact kk r u hw H1 ls locs1 (ht ▸ hB.1) hS1 hl
theorem k_callSQ (pc q : Nat) (C : Cx E p s m args meth c own cc nL ret) {y : MethodName} {cc' : ByteArray} {maxL N ix : Nat} {ret' : Option FieldType} {f lo : Nat}  {Post : Option Nat → gV → Prop} (As rest : List Value) (hd : decode cc pc = .ok (.invokestatic ix, 3)) (hq : pc + 3 = q) (hM : CtQ E T l y (gw y cc' maxL ret') { frames := f, cells := 0, slots := 0, locals := lo } As V Post) (I : MI y cc' maxL ret' N) (hw : Cond.methodLink own ix y ∈ GW) (hstt : Cond.static y ∈ GW) (hn : As.length = N) (hst : st = As.reverse ++ rest) (hroom : f + 1 ≤ R.frames ∧ 8 + (maxL + 11) + lo ≤ R.locals) (hcat : (rest.map fun v => v.category).sum ≤ 8) (hk0 : k ≤ R.cells) (hn0 : n ≤ R.slots)
    (kk : ∀ (r : Option Nat) (V' : gV), Post r V' → KW E T V' p l e R s m args below meth c nL k n Q q L (va_rf r :: rest)) : KW E T V p l e R s m args below meth c nL k n Q pc L st := by
  subst hq
  intro H ls locs hR hS hl
  refine va_callq (va_runS (As := As) (rest := rest) ⟨C.x, C.b, C.ml, C.ow, C.ts⟩ hM ⟨C.cb I hw rfl rfl hroom, C.ts _ hstt⟩ (C.pre hR hS) rfl hn hl.1 hst (lv_room hcat) hd ⟨hk0, hn0⟩) hS (fun q _ h => h) (fun q h => h) (fun r u t H1 locs1 ht hvm hw hB hz1 hk1 hS1 => ?_)
  exact kk r u hw H1 ls locs1 (ht ▸ hB.1) hS1 hl
def CtV (E : gE) (T : gT) (l : Launch) (y : MethodName) (ws : List Cond) (rm : Room) (av : List Value) (V : gV) (Post : gV → Prop) : Prop := Met l y ws rm (va_Pc av (RepS E T V)) (va_Qv Post (RepS E T) (gA E)) 0 0 (gA E)
theorem ctV_of {E : gE} {T : gT} {l : Launch} {y : MethodName} {rm : Room} {av : List Value} {V : gV} {Post : gV → Prop} {maxL : Nat} {own : String} {cc : ByteArray} {ret : Option FieldType} (hy : plainName y.cls = true) (ho : y.cls = own) (hlen : (lg_sl av).length ≤ maxL) {L : List (Nat × Value)} (hL : lv_args 0 av = L)
    (body : ∀ (p : Program) (e : Env) (s : State) (m : MethodId) (args : Array Value) (below : List Frame) (meth : Method) (c : Code), Cx E p s m args meth c own cc maxL ret → KW E T V p l e rm s m args below meth c maxL 0 0 (MQ below (va_Qv Post (RepS E T) (gA E)) args s 0 0 (gA E)) 0 L []) : CtV E T l y (gw y cc maxL ret) rm av V Post := by
  refine Met.ofW (cc := cc) (maxL := maxL) (ret := ret) hy rfl ?_
  intro p e s m args below meth c s₁ B hml hv
  obtain ⟨rfl, h1, h2, h3, h4, h5, h6⟩ := hv
  have hts : ∀ w ∈ GW, w.before av.toArray s = true := fun w h => atoms_spec (ws := gw y cc maxL ret) B.pre w (List.mem_cons_of_mem _ h)
  have C : Cx E p s m av.toArray meth c own cc maxL ret := ⟨B.exec, B.bytes, hml, by rw [← ho]; exact findClass_of_methodNamed B.named, hts, B.notSynchronized, h3, h4, h5, h6, h2, B.returns⟩
  have hl := lv_entry av (n := maxL) hlen
  rw [lg_entry_eq]
  exact body p e s m _ below meth c C s.heap _ [] h1 va_S.rf (hL ▸ hl)
theorem k_callVV (pc q : Nat) (C : Cx E p s m args meth c own cc nL ret) {y : MethodName} {cc' : ByteArray} {maxL N ix : Nat} {ret' : Option FieldType} {f lo : Nat} {b ci Nf : Nat} {Cn : String} {Tt : u_T} {ty : Nat → FieldType} {Post : gV → Prop} (As rest : List Value) (hd : decode cc pc = .ok (.invokevirtual ix, 3)) (hq : pc + 3 = q) (hM : CtV E T l y (gw y cc' maxL ret') { frames := f, cells := 0, slots := 0, locals := lo } (.ref b :: As) V Post) (I : MI y cc' maxL ret' N) (hw : Cond.methodLink own ix y ∈ GW) (hin : Cond.instanceMethod y ∈ GW) (hse : Cond.selects Cn y y ∈ GW) (Ic : CI ci Cn Tt Nf ty) (hb : tO T b ci) (hn : As.length = N) (hst : st = As.reverse ++ .ref b :: rest) (hroom : f + 1 ≤ R.frames ∧ 8 + (maxL + 11) + lo ≤ R.locals) (hcat : (rest.map fun v => v.category).sum ≤ 8) (hk0 : k ≤ R.cells) (hn0 : n ≤ R.slots)
    (kk : ∀ (V' : gV), Post V' → KW E T V' p l e R s m args below meth c nL k n Q q L rest) : KW E T V p l e R s m args below meth c nL k n Q pc L st := by
  subst hq
  intro H ls locs hR hS hl
  refine va_callv (va_runV (As := As) (rest := rest) ⟨C.x, C.b, C.ml, C.ow, C.ts⟩ hM ⟨C.cb I hw rfl rfl hroom, C.ts _ hin, C.ts _ hse⟩ (C.preV hR hS Ic hb) rfl hn hl.1 hst (lv_room hcat) hd ⟨hk0, hn0⟩) hS (fun q _ h => h) (fun q h => h) (fun u t H1 locs1 ht hvm hw hB hz1 hk1 hS1 => ?_)
  exact kk u hw H1 ls locs1 (ht ▸ hB.1) hS1 hl
theorem k_callSV (pc q : Nat) (C : Cx E p s m args meth c own cc nL ret) {y : MethodName} {cc' : ByteArray} {maxL N ix : Nat} {ret' : Option FieldType} {f lo : Nat}  {Post : gV → Prop} (As rest : List Value) (hd : decode cc pc = .ok (.invokestatic ix, 3)) (hq : pc + 3 = q) (hM : CtV E T l y (gw y cc' maxL ret') { frames := f, cells := 0, slots := 0, locals := lo } As V Post) (I : MI y cc' maxL ret' N) (hw : Cond.methodLink own ix y ∈ GW) (hstt : Cond.static y ∈ GW) (hn : As.length = N) (hst : st = As.reverse ++ rest) (hroom : f + 1 ≤ R.frames ∧ 8 + (maxL + 11) + lo ≤ R.locals) (hcat : (rest.map fun v => v.category).sum ≤ 8) (hk0 : k ≤ R.cells) (hn0 : n ≤ R.slots)
    (kk : ∀ (V' : gV), Post V' → KW E T V' p l e R s m args below meth c nL k n Q q L rest) : KW E T V p l e R s m args below meth c nL k n Q pc L st := by
  subst hq
  intro H ls locs hR hS hl
  refine va_callv (va_runS (As := As) (rest := rest) ⟨C.x, C.b, C.ml, C.ow, C.ts⟩ hM ⟨C.cb I hw rfl rfl hroom, C.ts _ hstt⟩ (C.pre hR hS) rfl hn hl.1 hst (lv_room hcat) hd ⟨hk0, hn0⟩) hS (fun q _ h => h) (fun q h => h) (fun u t H1 locs1 ht hvm hw hB hz1 hk1 hS1 => ?_)
  exact kk u hw H1 ls locs1 (ht ▸ hB.1) hS1 hl
theorem k_iret (pc : Nat) (C : Cx E p s m args meth c own cc nL ret) {x : Int32} {Post : Int32 → gV → Prop} (hd : decode cc pc = .ok (.ireturn, 1)) (hr : ret = some .int)  (h : Post x V) : KW E T V p l e R s m args below meth c nL k n (MQ below (va_Qi Post (RepS E T) (gA E)) args s k n (gA E)) pc L [.int x] := by
  intro H ls locs hR hS hl
  exact W.iret C.x C.b (C.re.trans hr) (fun t ht hW => ⟨⟨x, V, rfl, h, C.out hS hR ht hW.alike⟩, hS.F ht⟩) hS.2.2 hd C.lk
theorem k_zret (pc : Nat) (C : Cx E p s m args meth c own cc nL ret) {x : Int32} {Post : Int32 → gV → Prop} (hd : decode cc pc = .ok (.ireturn, 1)) (hr : ret = some .boolean) (hz : x = 0 ∨ x = 1) (h : Post x V) : KW E T V p l e R s m args below meth c nL k n (MQ below (va_Qi Post (RepS E T) (gA E)) args s k n (gA E)) pc L [.int x] := by
  intro H ls locs hR hS hl
  exact W.zret C.x C.b (C.re.trans hr) (by rcases hz with rfl | rfl <;> rfl) (fun t ht hW => ⟨⟨x, V, rfl, h, C.out hS hR ht hW.alike⟩, hS.F ht⟩) hS.2.2 hd C.lk
theorem k_cret (pc : Nat) (C : Cx E p s m args meth c own cc nL ret) {x : Int32} {Post : Int32 → gV → Prop} (hd : decode cc pc = .ok (.ireturn, 1)) (hr : ret = some .char) (hz : narrow .char (.int x) = .int x) (h : Post x V) : KW E T V p l e R s m args below meth c nL k n (MQ below (va_Qi Post (RepS E T) (gA E)) args s k n (gA E)) pc L [.int x] := by
  intro H ls locs hR hS hl
  exact W.zret C.x C.b (C.re.trans hr) hz (fun t ht hW => ⟨⟨x, V, rfl, h, C.out hS hR ht hW.alike⟩, hS.F ht⟩) hS.2.2 hd C.lk
theorem k_lret (pc : Nat) (C : Cx E p s m args meth c own cc nL ret) {x : Int64} {Post : Int64 → gV → Prop} (hd : decode cc pc = .ok (.lreturn, 1)) (hr : ret = some .long)  (h : Post x V) : KW E T V p l e R s m args below meth c nL k n (MQ below (va_Ql Post (RepS E T) (gA E)) args s k n (gA E)) pc L [.long x] := by
  intro H ls locs hR hS hl
  exact W.lret C.x C.b (C.re.trans hr) (fun t ht hW => ⟨⟨x, V, rfl, h, C.out hS hR ht hW.alike⟩, hS.F ht⟩) hS.2.2 hd C.lk
theorem k_fret (pc : Nat) (C : Cx E p s m args meth c own cc nL ret) {x : UInt32} {Post : UInt32 → gV → Prop} (hd : decode cc pc = .ok (.freturn, 1)) (hr : ret = some .float)  (h : Post x V) : KW E T V p l e R s m args below meth c nL k n (MQ below (va_Qf Post (RepS E T) (gA E)) args s k n (gA E)) pc L [.float x] := by
  intro H ls locs hR hS hl
  exact W.fret C.x C.b (C.re.trans hr) (fun t ht hW => ⟨⟨x, V, rfl, h, C.out hS hR ht hW.alike⟩, hS.F ht⟩) hS.2.2 hd C.lk
theorem k_aret (pc : Nat) (C : Cx E p s m args meth c own cc nL ret) {x : Option Nat} {rt : FieldType} {Post : Option Nat → gV → Prop} (hd : decode cc pc = .ok (.areturn, 1)) (hr : ret = some rt) (hrt : (∃ z, rt = .object z) ∨ ∃ z, rt = .array z) (h : Post x V) : KW E T V p l e R s m args below meth c nL k n (MQ below (va_Qq Post (RepS E T) (gA E)) args s k n (gA E)) pc L [va_rf x] := by
  intro H ls locs hR hS hl
  exact W.aret C.x C.b (C.re.trans hr) hrt (by cases x with | none => exact Or.inl rfl | some a => exact Or.inr ⟨a, rfl⟩) (fun t ht hW => ⟨⟨x, V, rfl, h, C.out hS hR ht hW.alike⟩, hS.F ht⟩) hS.2.2 hd C.lk
theorem k_vret (pc : Nat) (C : Cx E p s m args meth c own cc nL ret)  {Post : gV → Prop} (hd : decode cc pc = .ok (.return_, 1)) (hr : ret = none)  (h : Post V) : KW E T V p l e R s m args below meth c nL k n (MQ below (va_Qv Post (RepS E T) (gA E)) args s k n (gA E)) pc L [] := by
  intro H ls locs hR hS hl
  exact W.vret C.x C.b (C.re.trans hr) (fun t ht hW => ⟨⟨V, rfl, h, C.out hS hR ht hW.alike⟩, hS.F ht⟩) hS.2.2 hd C.lk
end CTS
end
section
theorem mi_X3_init : MI yX3_init cX3_init 2 none 0 := ⟨cd_X3_init, ini_X3, by decide +kernel, by decide +kernel, by decide +kernel⟩
theorem mi_X0_init : MI yX0_init cX0_init 2 none 0 := ⟨cd_X0_init, ini_X0, by decide +kernel, by decide +kernel, by decide +kernel⟩
theorem mi_X1_init : MI yX1_init cX1_init 1 none 0 := ⟨cd_X1_init, ini_X1, by decide +kernel, by decide +kernel, by decide +kernel⟩
theorem mi_X2_init : MI yX2_init cX2_init 1 none 0 := ⟨cd_X2_init, ini_X2, by decide +kernel, by decide +kernel, by decide +kernel⟩
theorem mi_X4_init : MI yX4_init cX4_init 1 none 0 := ⟨cd_X4_init, ini_X4, by decide +kernel, by decide +kernel, by decide +kernel⟩
theorem mi_X3_arm : MI yX3_arm cX3_arm 4 (some .int) 2 := ⟨cd_X3_arm, ini_X3, by decide +kernel, by decide +kernel, by decide +kernel⟩
theorem mi_X3_isWithin : MI yX3_isWithin cX3_isWithin 3 (some .boolean) 3 := ⟨cd_X3_isWithin, ini_X3, by decide +kernel, by decide +kernel, by decide +kernel⟩
theorem mi_X3_remember : MI yX3_remember cX3_remember 1 none 0 := ⟨cd_X3_remember, ini_X3, by decide +kernel, by decide +kernel, by decide +kernel⟩
theorem mi_X3_dropOldest : MI yX3_dropOldest cX3_dropOldest 3 none 0 := ⟨cd_X3_dropOldest, ini_X3, by decide +kernel, by decide +kernel, by decide +kernel⟩
theorem mi_X0_takeFrom : MI yX0_takeFrom cX0_takeFrom 5 none 1 := ⟨cd_X0_takeFrom, ini_X0, by decide +kernel, by decide +kernel, by decide +kernel⟩
theorem mi_X0_setting : MI yX0_setting cX0_setting 2 (some .int) 1 := ⟨cd_X0_setting, ini_X0, by decide +kernel, by decide +kernel, by decide +kernel⟩
theorem mi_X0_find : MI yX0_find cX0_find 2 (some (.object "PantographArm$Drawing")) 1 := ⟨cd_X0_find, ini_X0, by decide +kernel, by decide +kernel, by decide +kernel⟩
theorem mi_X1_takeFrom : MI yX1_takeFrom cX1_takeFrom 3 none 1 := ⟨cd_X1_takeFrom, ini_X1, by decide +kernel, by decide +kernel, by decide +kernel⟩
theorem mi_X1_begin : MI yX1_begin cX1_begin 6 none 3 := ⟨cd_X1_begin, ini_X1, by decide +kernel, by decide +kernel, by decide +kernel⟩
theorem mi_X1_x : MI yX1_x cX1_x 2 (some .long) 1 := ⟨cd_X1_x, ini_X1, by decide +kernel, by decide +kernel, by decide +kernel⟩
theorem mi_X1_has : MI yX1_has cX1_has 2 (some .boolean) 1 := ⟨cd_X1_has, ini_X1, by decide +kernel, by decide +kernel, by decide +kernel⟩
theorem mi_X1_y : MI yX1_y cX1_y 2 (some .long) 1 := ⟨cd_X1_y, ini_X1, by decide +kernel, by decide +kernel, by decide +kernel⟩
theorem mi_X1_line : MI yX1_line cX1_line 2 (some .int) 1 := ⟨cd_X1_line, ini_X1, by decide +kernel, by decide +kernel, by decide +kernel⟩
theorem mi_X1_add : MI yX1_add cX1_add 6 none 3 := ⟨cd_X1_add, ini_X1, by decide +kernel, by decide +kernel, by decide +kernel⟩
theorem mi_X4_arm : MI yX4_arm cX4_arm 4 (some .int) 2 := ⟨cd_X4_arm, ini_X4, by decide +kernel, by decide +kernel, by decide +kernel⟩
theorem mi_X4_in : MI yX4_in cX4_in 3 (some .boolean) 3 := ⟨cd_X4_in, ini_X4, by decide +kernel, by decide +kernel, by decide +kernel⟩
theorem mi_X4_keep : MI yX4_keep cX4_keep 2 none 0 := ⟨cd_X4_keep, ini_X4, by decide +kernel, by decide +kernel, by decide +kernel⟩
theorem mi_X4_bring : MI yX4_bring cX4_bring 5 none 4 := ⟨cd_X4_bring, ini_X4, by decide +kernel, by decide +kernel, by decide +kernel⟩
theorem mi_X4_of : MI yX4_of cX4_of 2 (some .int) 1 := ⟨cd_X4_of, ini_X4, by decide +kernel, by decide +kernel, by decide +kernel⟩
theorem mi_X3_pivot : MI yX3_pivot cX3_pivot 4 (some .int) 2 := ⟨cd_X3_pivot, ini_X3, by decide +kernel, by decide +kernel, by decide +kernel⟩
theorem mi_X4_pivot : MI yX4_pivot cX4_pivot 4 (some .int) 2 := ⟨cd_X4_pivot, ini_X4, by decide +kernel, by decide +kernel, by decide +kernel⟩
theorem mi_X3_set : MI yX3_set cX3_set 4 (some .int) 2 := ⟨cd_X3_set, ini_X3, by decide +kernel, by decide +kernel, by decide +kernel⟩
theorem mi_X0_changeSetting : MI yX0_changeSetting cX0_changeSetting 3 none 2 := ⟨cd_X0_changeSetting, ini_X0, by decide +kernel, by decide +kernel, by decide +kernel⟩
theorem mi_X4_set : MI yX4_set cX4_set 4 (some .int) 2 := ⟨cd_X4_set, ini_X4, by decide +kernel, by decide +kernel, by decide +kernel⟩
theorem mi_X4_isSetting : MI yX4_isSetting cX4_isSetting 2 (some .boolean) 2 := ⟨cd_X4_isSetting, ini_X4, by decide +kernel, by decide +kernel, by decide +kernel⟩
theorem mi_X3_count : MI yX3_count cX3_count 2 (some .int) 1 := ⟨cd_X3_count, ini_X3, by decide +kernel, by decide +kernel, by decide +kernel⟩
theorem mi_X0_isBlunt : MI yX0_isBlunt cX0_isBlunt 1 (some .boolean) 0 := ⟨cd_X0_isBlunt, ini_X0, by decide +kernel, by decide +kernel, by decide +kernel⟩
theorem mi_X0_wornWidth : MI yX0_wornWidth cX0_wornWidth 1 (some .int) 0 := ⟨cd_X0_wornWidth, ini_X0, by decide +kernel, by decide +kernel, by decide +kernel⟩
theorem mi_X3_quotient : MI yX3_quotient cX3_quotient 4 (some .long) 2 := ⟨cd_X3_quotient, ini_X3, by decide +kernel, by decide +kernel, by decide +kernel⟩
theorem mi_X4_count : MI yX4_count cX4_count 2 (some .int) 1 := ⟨cd_X4_count, ini_X4, by decide +kernel, by decide +kernel, by decide +kernel⟩
theorem mi_X4_isBlunt : MI yX4_isBlunt cX4_isBlunt 1 (some .boolean) 0 := ⟨cd_X4_isBlunt, ini_X4, by decide +kernel, by decide +kernel, by decide +kernel⟩
theorem mi_X3_sharpen : MI yX3_sharpen cX3_sharpen 2 (some .int) 0 := ⟨cd_X3_sharpen, ini_X3, by decide +kernel, by decide +kernel, by decide +kernel⟩
theorem mi_X4_sharpen : MI yX4_sharpen cX4_sharpen 2 (some .int) 0 := ⟨cd_X4_sharpen, ini_X4, by decide +kernel, by decide +kernel, by decide +kernel⟩
theorem mi_X3_draw : MI yX3_draw cX3_draw 1 (some .int) 0 := ⟨cd_X3_draw, ini_X3, by decide +kernel, by decide +kernel, by decide +kernel⟩
theorem mi_X0_spare : MI yX0_spare cX0_spare 1 (some (.object "PantographArm$Drawing")) 0 := ⟨cd_X0_spare, ini_X0, by decide +kernel, by decide +kernel, by decide +kernel⟩
theorem mi_X0_beginOriginal : MI yX0_beginOriginal cX0_beginOriginal 2 (some .int) 0 := ⟨cd_X0_beginOriginal, ini_X0, by decide +kernel, by decide +kernel, by decide +kernel⟩
theorem mi_X4_draw : MI yX4_draw cX4_draw 1 (some .int) 0 := ⟨cd_X4_draw, ini_X4, by decide +kernel, by decide +kernel, by decide +kernel⟩
theorem mi_X4_begins : MI yX4_begins cX4_begins 3 (some .int) 0 := ⟨cd_X4_begins, ini_X4, by decide +kernel, by decide +kernel, by decide +kernel⟩
theorem mi_X4_head : MI yX4_head cX4_head 2 (some .int) 2 := ⟨cd_X4_head, ini_X4, by decide +kernel, by decide +kernel, by decide +kernel⟩
theorem mi_X3_point : MI yX3_point cX3_point 6 (some .int) 4 := ⟨cd_X3_point, ini_X3, by decide +kernel, by decide +kernel, by decide +kernel⟩
theorem mi_X1_isCopy : MI yX1_isCopy cX1_isCopy 1 (some .boolean) 0 := ⟨cd_X1_isCopy, ini_X1, by decide +kernel, by decide +kernel, by decide +kernel⟩
theorem mi_X0_hasCopies : MI yX0_hasCopies cX0_hasCopies 4 (some .boolean) 1 := ⟨cd_X0_hasCopies, ini_X0, by decide +kernel, by decide +kernel, by decide +kernel⟩
theorem mi_X1_isFull : MI yX1_isFull cX1_isFull 1 (some .boolean) 0 := ⟨cd_X1_isFull, ini_X1, by decide +kernel, by decide +kernel, by decide +kernel⟩
theorem mi_X4_point : MI yX4_point cX4_point 5 (some .int) 4 := ⟨cd_X4_point, ini_X4, by decide +kernel, by decide +kernel, by decide +kernel⟩
theorem mi_X4_isDrawing : MI yX4_isDrawing cX4_isDrawing 2 (some .boolean) 1 := ⟨cd_X4_isDrawing, ini_X4, by decide +kernel, by decide +kernel, by decide +kernel⟩
theorem mi_X4_isCopied : MI yX4_isCopied cX4_isCopied 4 (some .boolean) 1 := ⟨cd_X4_isCopied, ini_X4, by decide +kernel, by decide +kernel, by decide +kernel⟩
theorem mi_X4_points : MI yX4_points cX4_points 2 (some .int) 1 := ⟨cd_X4_points, ini_X4, by decide +kernel, by decide +kernel, by decide +kernel⟩
theorem mi_X4_adds : MI yX4_adds cX4_adds 8 none 4 := ⟨cd_X4_adds, ini_X4, by decide +kernel, by decide +kernel, by decide +kernel⟩
theorem mi_X4_cellOf : MI yX4_cellOf cX4_cellOf 2 (some .int) 2 := ⟨cd_X4_cellOf, ini_X4, by decide +kernel, by decide +kernel, by decide +kernel⟩
theorem mi_X4_lengthTo : MI yX4_lengthTo cX4_lengthTo 9 (some .int) 2 := ⟨cd_X4_lengthTo, ini_X4, by decide +kernel, by decide +kernel, by decide +kernel⟩
theorem mi_X4_plus : MI yX4_plus cX4_plus 13 none 5 := ⟨cd_X4_plus, ini_X4, by decide +kernel, by decide +kernel, by decide +kernel⟩
theorem mi_X4_divisor : MI yX4_divisor cX4_divisor 10 (some .long) 2 := ⟨cd_X4_divisor, ini_X4, by decide +kernel, by decide +kernel, by decide +kernel⟩
theorem mi_X4_size : MI yX4_size cX4_size 2 (some .long) 1 := ⟨cd_X4_size, ini_X4, by decide +kernel, by decide +kernel, by decide +kernel⟩
theorem mi_X4_reduce : MI yX4_reduce cX4_reduce 7 none 2 := ⟨cd_X4_reduce, ini_X4, by decide +kernel, by decide +kernel, by decide +kernel⟩
theorem mi_X3_remove : MI yX3_remove cX3_remove 2 (some .int) 1 := ⟨cd_X3_remove, ini_X3, by decide +kernel, by decide +kernel, by decide +kernel⟩
theorem mi_X0_takeAway : MI yX0_takeAway cX0_takeAway 6 none 1 := ⟨cd_X0_takeAway, ini_X0, by decide +kernel, by decide +kernel, by decide +kernel⟩
theorem mi_X4_remove : MI yX4_remove cX4_remove 3 (some .int) 1 := ⟨cd_X4_remove, ini_X4, by decide +kernel, by decide +kernel, by decide +kernel⟩
theorem mi_X3_copy : MI yX3_copy cX3_copy 3 (some .int) 1 := ⟨cd_X3_copy, ini_X3, by decide +kernel, by decide +kernel, by decide +kernel⟩
theorem mi_X0_reasonAgainst : MI yX0_reasonAgainst cX0_reasonAgainst 4 (some .int) 2 := ⟨cd_X0_reasonAgainst, ini_X0, by decide +kernel, by decide +kernel, by decide +kernel⟩
theorem mi_X0_trace : MI yX0_trace cX0_trace 11 none 3 := ⟨cd_X0_trace, ini_X0, by decide +kernel, by decide +kernel, by decide +kernel⟩
theorem mi_X0_signX : MI yX0_signX cX0_signX 1 (some .int) 0 := ⟨cd_X0_signX, ini_X0, by decide +kernel, by decide +kernel, by decide +kernel⟩
theorem mi_X0_signY : MI yX0_signY cX0_signY 1 (some .int) 0 := ⟨cd_X0_signY, ini_X0, by decide +kernel, by decide +kernel, by decide +kernel⟩
theorem mi_X0_aim : MI yX0_aim cX0_aim 7 (some .long) 4 := ⟨cd_X0_aim, ini_X0, by decide +kernel, by decide +kernel, by decide +kernel⟩
theorem mi_X1_isJoined : MI yX1_isJoined cX1_isJoined 2 (some .boolean) 1 := ⟨cd_X1_isJoined, ini_X1, by decide +kernel, by decide +kernel, by decide +kernel⟩
theorem mi_X0_follow : MI yX0_follow cX0_follow 6 (some .long) 3 := ⟨cd_X0_follow, ini_X0, by decide +kernel, by decide +kernel, by decide +kernel⟩
theorem mi_X1_isTooFine : MI yX1_isTooFine cX1_isTooFine 2 (some .boolean) 0 := ⟨cd_X1_isTooFine, ini_X1, by decide +kernel, by decide +kernel, by decide +kernel⟩
theorem mi_X3_lowest : MI yX3_lowest cX3_lowest 9 (some .long) 3 := ⟨cd_X3_lowest, ini_X3, by decide +kernel, by decide +kernel, by decide +kernel⟩
theorem mi_X3_greatestDivisor : MI yX3_greatestDivisor cX3_greatestDivisor 11 (some .long) 2 := ⟨cd_X3_greatestDivisor, ini_X3, by decide +kernel, by decide +kernel, by decide +kernel⟩
theorem mi_X0_keepTraced : MI yX0_keepTraced cX0_keepTraced 3 (some .int) 0 := ⟨cd_X0_keepTraced, ini_X0, by decide +kernel, by decide +kernel, by decide +kernel⟩
theorem mi_X0_drawLine : MI yX0_drawLine cX0_drawLine 4 none 2 := ⟨cd_X0_drawLine, ini_X0, by decide +kernel, by decide +kernel, by decide +kernel⟩
theorem mi_X0_isOnBoard : MI yX0_isOnBoard cX0_isOnBoard 7 (some .boolean) 2 := ⟨cd_X0_isOnBoard, ini_X0, by decide +kernel, by decide +kernel, by decide +kernel⟩
theorem mi_X1_lineLength : MI yX1_lineLength cX1_lineLength 6 (some .int) 1 := ⟨cd_X1_lineLength, ini_X1, by decide +kernel, by decide +kernel, by decide +kernel⟩
theorem mi_X1_changeLine : MI yX1_changeLine cX1_changeLine 3 none 2 := ⟨cd_X1_changeLine, ini_X1, by decide +kernel, by decide +kernel, by decide +kernel⟩
theorem mi_X4_copy : MI yX4_copy cX4_copy 5 (some .int) 1 := ⟨cd_X4_copy, ini_X4, by decide +kernel, by decide +kernel, by decide +kernel⟩
theorem mi_X4_reason : MI yX4_reason cX4_reason 3 (some .int) 1 := ⟨cd_X4_reason, ini_X4, by decide +kernel, by decide +kernel, by decide +kernel⟩
theorem mi_X4_copies : MI yX4_copies cX4_copies 6 (some .boolean) 1 := ⟨cd_X4_copies, ini_X4, by decide +kernel, by decide +kernel, by decide +kernel⟩
theorem mi_X4_put : MI yX4_put cX4_put 2 none 1 := ⟨cd_X4_put, ini_X4, by decide +kernel, by decide +kernel, by decide +kernel⟩
theorem mi_X4_signOf : MI yX4_signOf cX4_signOf 2 (some .int) 1 := ⟨cd_X4_signOf, ini_X4, by decide +kernel, by decide +kernel, by decide +kernel⟩
theorem mi_X4_shift : MI yX4_shift cX4_shift 5 none 3 := ⟨cd_X4_shift, ini_X4, by decide +kernel, by decide +kernel, by decide +kernel⟩
theorem mi_X4_aim : MI yX4_aim cX4_aim 8 none 3 := ⟨cd_X4_aim, ini_X4, by decide +kernel, by decide +kernel, by decide +kernel⟩
theorem mi_X4_trace : MI yX4_trace cX4_trace 8 none 3 := ⟨cd_X4_trace, ini_X4, by decide +kernel, by decide +kernel, by decide +kernel⟩
theorem mi_X4_follow : MI yX4_follow cX4_follow 11 none 2 := ⟨cd_X4_follow, ini_X4, by decide +kernel, by decide +kernel, by decide +kernel⟩
theorem mi_X4_line : MI yX4_line cX4_line 6 none 2 := ⟨cd_X4_line, ini_X4, by decide +kernel, by decide +kernel, by decide +kernel⟩
theorem mi_X4_isOnBoard : MI yX4_isOnBoard cX4_isOnBoard 5 (some .boolean) 2 := ⟨cd_X4_isOnBoard, ini_X4, by decide +kernel, by decide +kernel, by decide +kernel⟩
theorem mi_X3_why : MI yX3_why cX3_why 3 (some .int) 1 := ⟨cd_X3_why, ini_X3, by decide +kernel, by decide +kernel, by decide +kernel⟩
theorem mi_X4_why : MI yX4_why cX4_why 2 (some .int) 1 := ⟨cd_X4_why, ini_X4, by decide +kernel, by decide +kernel, by decide +kernel⟩
theorem mi_X3_drawing : MI yX3_drawing cX3_drawing 4 (some .int) 2 := ⟨cd_X3_drawing, ini_X3, by decide +kernel, by decide +kernel, by decide +kernel⟩
theorem mi_X0_originalOf : MI yX0_originalOf cX0_originalOf 5 (some .int) 1 := ⟨cd_X0_originalOf, ini_X0, by decide +kernel, by decide +kernel, by decide +kernel⟩
theorem mi_X0_stepsOf : MI yX0_stepsOf cX0_stepsOf 5 (some .int) 1 := ⟨cd_X0_stepsOf, ini_X0, by decide +kernel, by decide +kernel, by decide +kernel⟩
theorem mi_X1_drawnLines : MI yX1_drawnLines cX1_drawnLines 3 (some .int) 0 := ⟨cd_X1_drawnLines, ini_X1, by decide +kernel, by decide +kernel, by decide +kernel⟩
theorem mi_X1_width : MI yX1_width cX1_width 2 (some .int) 1 := ⟨cd_X1_width, ini_X1, by decide +kernel, by decide +kernel, by decide +kernel⟩
theorem mi_X1_drawnLength : MI yX1_drawnLength cX1_drawnLength 3 (some .int) 0 := ⟨cd_X1_drawnLength, ini_X1, by decide +kernel, by decide +kernel, by decide +kernel⟩
theorem mi_X1_greatestWidth : MI yX1_greatestWidth cX1_greatestWidth 3 (some .int) 0 := ⟨cd_X1_greatestWidth, ini_X1, by decide +kernel, by decide +kernel, by decide +kernel⟩
theorem mi_X0_pointsOffBoard : MI yX0_pointsOffBoard cX0_pointsOffBoard 4 (some .int) 1 := ⟨cd_X0_pointsOffBoard, ini_X0, by decide +kernel, by decide +kernel, by decide +kernel⟩
theorem mi_X1_ratioAsFloat : MI yX1_ratioAsFloat cX1_ratioAsFloat 5 (some .float) 0 := ⟨cd_X1_ratioAsFloat, ini_X1, by decide +kernel, by decide +kernel, by decide +kernel⟩
theorem mi_X3_floatBits : MI yX3_floatBits cX3_floatBits 4 (some .int) 1 := ⟨cd_X3_floatBits, ini_X3, by decide +kernel, by decide +kernel, by decide +kernel⟩
theorem mi_X4_drawing : MI yX4_drawing cX4_drawing 3 (some .int) 2 := ⟨cd_X4_drawing, ini_X4, by decide +kernel, by decide +kernel, by decide +kernel⟩
theorem mi_X4_drawingOf : MI yX4_drawingOf cX4_drawingOf 3 (some .int) 2 := ⟨cd_X4_drawingOf, ini_X4, by decide +kernel, by decide +kernel, by decide +kernel⟩
theorem mi_X4_root : MI yX4_root cX4_root 3 (some .int) 1 := ⟨cd_X4_root, ini_X4, by decide +kernel, by decide +kernel, by decide +kernel⟩
theorem mi_X4_steps : MI yX4_steps cX4_steps 4 (some .int) 1 := ⟨cd_X4_steps, ini_X4, by decide +kernel, by decide +kernel, by decide +kernel⟩
theorem mi_X4_offBoard : MI yX4_offBoard cX4_offBoard 4 (some .int) 1 := ⟨cd_X4_offBoard, ini_X4, by decide +kernel, by decide +kernel, by decide +kernel⟩
theorem mi_X4_ratioOf : MI yX4_ratioOf cX4_ratioOf 2 (some .float) 1 := ⟨cd_X4_ratioOf, ini_X4, by decide +kernel, by decide +kernel, by decide +kernel⟩
theorem mi_Jxf58ca_floatToIntBits_5c35a : MI yJxf58ca_floatToIntBits_5c35a cJxf58ca_floatToIntBits_5c35a 1 (some .int) 1 := ⟨cd_Jxf58ca_floatToIntBits_5c35a, ini_Jxf58ca, by decide +kernel, by decide +kernel, by decide +kernel⟩
theorem mi_Jxf58ca_isNaN_12338 : MI yJxf58ca_isNaN_12338 cJxf58ca_isNaN_12338 1 (some .boolean) 1 := ⟨cd_Jxf58ca_isNaN_12338, ini_Jxf58ca, by decide +kernel, by decide +kernel, by decide +kernel⟩
theorem mi_X4_lines : MI yX4_lines cX4_lines 8 (some .int) 2 := ⟨cd_X4_lines, ini_X4, by decide +kernel, by decide +kernel, by decide +kernel⟩
theorem mi_X3_ratio : MI yX3_ratio cX3_ratio 4 (some .int) 2 := ⟨cd_X3_ratio, ini_X3, by decide +kernel, by decide +kernel, by decide +kernel⟩
theorem mi_X4_ratio : MI yX4_ratio cX4_ratio 3 (some .int) 2 := ⟨cd_X4_ratio, ini_X4, by decide +kernel, by decide +kernel, by decide +kernel⟩
theorem mi_X3_pointInfo : MI yX3_pointInfo cX3_pointInfo 5 (some .long) 3 := ⟨cd_X3_pointInfo, ini_X3, by decide +kernel, by decide +kernel, by decide +kernel⟩
theorem mi_X4_pointInfo : MI yX4_pointInfo cX4_pointInfo 4 (some .long) 3 := ⟨cd_X4_pointInfo, ini_X4, by decide +kernel, by decide +kernel, by decide +kernel⟩
theorem mi_X4_isPoint : MI yX4_isPoint cX4_isPoint 3 (some .boolean) 2 := ⟨cd_X4_isPoint, ini_X4, by decide +kernel, by decide +kernel, by decide +kernel⟩
theorem mi_X3_atOnce : MI yX3_atOnce cX3_atOnce 6 (some .long) 3 := ⟨cd_X3_atOnce, ini_X3, by decide +kernel, by decide +kernel, by decide +kernel⟩
theorem mi_X1_xAtOnce : MI yX1_xAtOnce cX1_xAtOnce 3 (some .long) 1 := ⟨cd_X1_xAtOnce, ini_X1, by decide +kernel, by decide +kernel, by decide +kernel⟩
theorem mi_X1_yAtOnce : MI yX1_yAtOnce cX1_yAtOnce 3 (some .long) 1 := ⟨cd_X1_yAtOnce, ini_X1, by decide +kernel, by decide +kernel, by decide +kernel⟩
theorem mi_X4_atOnce : MI yX4_atOnce cX4_atOnce 10 (some .long) 3 := ⟨cd_X4_atOnce, ini_X4, by decide +kernel, by decide +kernel, by decide +kernel⟩
theorem mi_X3_alike : MI yX3_alike cX3_alike 7 (some .int) 2 := ⟨cd_X3_alike, ini_X3, by decide +kernel, by decide +kernel, by decide +kernel⟩
theorem mi_X4_alike : MI yX4_alike cX4_alike 7 (some .int) 2 := ⟨cd_X4_alike, ini_X4, by decide +kernel, by decide +kernel, by decide +kernel⟩
theorem mi_X3_armFor : MI yX3_armFor cX3_armFor 13 (some .int) 2 := ⟨cd_X3_armFor, ini_X3, by decide +kernel, by decide +kernel, by decide +kernel⟩
theorem mi_X4_armFor : MI yX4_armFor cX4_armFor 5 (some .int) 2 := ⟨cd_X4_armFor, ini_X4, by decide +kernel, by decide +kernel, by decide +kernel⟩
theorem mi_X3_undo : MI yX3_undo cX3_undo 3 (some .int) 0 := ⟨cd_X3_undo, ini_X3, by decide +kernel, by decide +kernel, by decide +kernel⟩
theorem mi_X4_undo : MI yX4_undo cX4_undo 1 (some .int) 0 := ⟨cd_X4_undo, ini_X4, by decide +kernel, by decide +kernel, by decide +kernel⟩
theorem mi_X3_type : MI yX3_type cX3_type 2 (some .int) 1 := ⟨cd_X3_type, ini_X3, by decide +kernel, by decide +kernel, by decide +kernel⟩
theorem mi_X2_append : MI yX2_append cX2_append 2 (some .boolean) 1 := ⟨cd_X2_append, ini_X2, by decide +kernel, by decide +kernel, by decide +kernel⟩
theorem mi_X4_type : MI yX4_type cX4_type 2 (some .int) 1 := ⟨cd_X4_type, ini_X4, by decide +kernel, by decide +kernel, by decide +kernel⟩
theorem mi_X3_clearText : MI yX3_clearText cX3_clearText 2 (some .int) 0 := ⟨cd_X3_clearText, ini_X3, by decide +kernel, by decide +kernel, by decide +kernel⟩
theorem mi_X4_clearText : MI yX4_clearText cX4_clearText 2 (some .int) 0 := ⟨cd_X4_clearText, ini_X4, by decide +kernel, by decide +kernel, by decide +kernel⟩
theorem mi_X3_fault : MI yX3_fault cX3_fault 2 (some .int) 1 := ⟨cd_X3_fault, ini_X3, by decide +kernel, by decide +kernel, by decide +kernel⟩
theorem mi_X2_parse : MI yX2_parse cX2_parse 4 (some .int) 0 := ⟨cd_X2_parse, ini_X2, by decide +kernel, by decide +kernel, by decide +kernel⟩
theorem mi_X2_parsePoint : MI yX2_parsePoint cX2_parsePoint 4 none 1 := ⟨cd_X2_parsePoint, ini_X2, by decide +kernel, by decide +kernel, by decide +kernel⟩
theorem mi_X2_here : MI yX2_here cX2_here 1 (some .char) 0 := ⟨cd_X2_here, ini_X2, by decide +kernel, by decide +kernel, by decide +kernel⟩
theorem mi_X2_isDigit : MI yX2_isDigit cX2_isDigit 1 (some .boolean) 1 := ⟨cd_X2_isDigit, ini_X2, by decide +kernel, by decide +kernel, by decide +kernel⟩
theorem mi_X2_fail : MI yX2_fail cX2_fail 3 none 2 := ⟨cd_X2_fail, ini_X2, by decide +kernel, by decide +kernel, by decide +kernel⟩
theorem mi_X2_parseNumber : MI yX2_parseNumber cX2_parseNumber 4 (some .int) 0 := ⟨cd_X2_parseNumber, ini_X2, by decide +kernel, by decide +kernel, by decide +kernel⟩
theorem mi_X2_failHere : MI yX2_failHere cX2_failHere 1 none 0 := ⟨cd_X2_failHere, ini_X2, by decide +kernel, by decide +kernel, by decide +kernel⟩
theorem mi_X2_expect : MI yX2_expect cX2_expect 2 none 1 := ⟨cd_X2_expect, ini_X2, by decide +kernel, by decide +kernel, by decide +kernel⟩
theorem mi_X2_accept : MI yX2_accept cX2_accept 2 (some .boolean) 1 := ⟨cd_X2_accept, ini_X2, by decide +kernel, by decide +kernel, by decide +kernel⟩
theorem mi_X4_fault : MI yX4_fault cX4_fault 2 (some .int) 1 := ⟨cd_X4_fault, ini_X4, by decide +kernel, by decide +kernel, by decide +kernel⟩
theorem mi_X4_readText : MI yX4_readText cX4_readText 6 (some .int) 0 := ⟨cd_X4_readText, ini_X4, by decide +kernel, by decide +kernel, by decide +kernel⟩
theorem mi_X4_readPoint : MI yX4_readPoint cX4_readPoint 4 (some .boolean) 2 := ⟨cd_X4_readPoint, ini_X4, by decide +kernel, by decide +kernel, by decide +kernel⟩
theorem mi_X4_here : MI yX4_here cX4_here 1 (some .int) 0 := ⟨cd_X4_here, ini_X4, by decide +kernel, by decide +kernel, by decide +kernel⟩
theorem mi_X4_readNumber : MI yX4_readNumber cX4_readNumber 2 (some .boolean) 0 := ⟨cd_X4_readNumber, ini_X4, by decide +kernel, by decide +kernel, by decide +kernel⟩
theorem mi_X4_isFault : MI yX4_isFault cX4_isFault 1 (some .boolean) 0 := ⟨cd_X4_isFault, ini_X4, by decide +kernel, by decide +kernel, by decide +kernel⟩
theorem mi_X3_read : MI yX3_read cX3_read 3 (some .int) 0 := ⟨cd_X3_read, ini_X3, by decide +kernel, by decide +kernel, by decide +kernel⟩
theorem mi_X2_addPointsTo : MI yX2_addPointsTo cX2_addPointsTo 3 none 1 := ⟨cd_X2_addPointsTo, ini_X2, by decide +kernel, by decide +kernel, by decide +kernel⟩
theorem mi_X4_read : MI yX4_read cX4_read 4 (some .int) 0 := ⟨cd_X4_read, ini_X4, by decide +kernel, by decide +kernel, by decide +kernel⟩
end
