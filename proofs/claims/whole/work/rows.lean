section
-- ===== PART A: goes FIRST, ahead of the names: the tables' words, and 'selects' of the private methods out of them =====
/-- a private method of a class that the tables say can be made, by its rows of tables_1 -/
def lw_okq (q : MethodName × Nat) : Prop := (q.1.cls ≠ "java/lang/invoke/MethodHandle" ∧ q.1.cls ≠ "java/lang/invoke/VarHandle") ∧ Cond.instantiable q.1.cls q.2 ∈ tables_1 ∧ Cond.privateMethod q.1 ∈ tables_1 ∧ Cond.instanceMethod q.1 ∈ tables_1
theorem lw_p0 : lw_okq (⟨"PictureJoin", "isDot", "(III)Z"⟩, 6) := ⟨⟨by decide +kernel, by decide +kernel⟩, List.mem_of_getElem? (i := 14) (by decide +kernel), List.mem_of_getElem? (i := 322) (by decide +kernel), List.mem_of_getElem? (i := 323) (by decide +kernel)⟩
theorem lw_p1 : lw_okq (⟨"PictureJoin", "isPicture", "(I)Z"⟩, 6) := ⟨⟨by decide +kernel, by decide +kernel⟩, List.mem_of_getElem? (i := 14) (by decide +kernel), List.mem_of_getElem? (i := 326) (by decide +kernel), List.mem_of_getElem? (i := 327) (by decide +kernel)⟩
theorem lw_p2 : lw_okq (⟨"PictureJoin$Dots", "changeAbout", "(IIII)I"⟩, 5) := ⟨⟨by decide +kernel, by decide +kernel⟩, List.mem_of_getElem? (i := 48) (by decide +kernel), List.mem_of_getElem? (i := 361) (by decide +kernel), List.mem_of_getElem? (i := 362) (by decide +kernel)⟩
theorem lw_p3 : lw_okq (⟨"PictureJoin$Marks", "insert", "(III)V"⟩, 5) := ⟨⟨by decide +kernel, by decide +kernel⟩, List.mem_of_getElem? (i := 81) (by decide +kernel), List.mem_of_getElem? (i := 392) (by decide +kernel), List.mem_of_getElem? (i := 393) (by decide +kernel)⟩
theorem lw_p4 : lw_okq (⟨"PictureJoin$Pairing", "shiftX", "(LPictureJoin$Marks;ILPictureJoin$Marks;)I"⟩, 5) := ⟨⟨by decide +kernel, by decide +kernel⟩, List.mem_of_getElem? (i := 141) (by decide +kernel), List.mem_of_getElem? (i := 423) (by decide +kernel), List.mem_of_getElem? (i := 424) (by decide +kernel)⟩
theorem lw_p5 : lw_okq (⟨"PictureJoin$Pairing", "shiftY", "(LPictureJoin$Marks;ILPictureJoin$Marks;)I"⟩, 5) := ⟨⟨by decide +kernel, by decide +kernel⟩, List.mem_of_getElem? (i := 141) (by decide +kernel), List.mem_of_getElem? (i := 427) (by decide +kernel), List.mem_of_getElem? (i := 428) (by decide +kernel)⟩
theorem lw_p6 : lw_okq (⟨"PictureJoin$Pairing", "propose", "(LPictureJoin$Marks;LPictureJoin$Marks;II)V"⟩, 5) := ⟨⟨by decide +kernel, by decide +kernel⟩, List.mem_of_getElem? (i := 141) (by decide +kernel), List.mem_of_getElem? (i := 431) (by decide +kernel), List.mem_of_getElem? (i := 432) (by decide +kernel)⟩
theorem lw_p7 : lw_okq (⟨"PictureJoin$Album", "joinAll", "()V"⟩, 6) := ⟨⟨by decide +kernel, by decide +kernel⟩, List.mem_of_getElem? (i := 33) (by decide +kernel), List.mem_of_getElem? (i := 435) (by decide +kernel), List.mem_of_getElem? (i := 436) (by decide +kernel)⟩
theorem lw_p8 : lw_okq (⟨"PictureJoin$Album", "put", "(IIII)V"⟩, 6) := ⟨⟨by decide +kernel, by decide +kernel⟩, List.mem_of_getElem? (i := 33) (by decide +kernel), List.mem_of_getElem? (i := 439) (by decide +kernel), List.mem_of_getElem? (i := 440) (by decide +kernel)⟩
theorem lw_p9 : lw_okq (⟨"PictureJoin$Album", "bestPair", "()I"⟩, 6) := ⟨⟨by decide +kernel, by decide +kernel⟩, List.mem_of_getElem? (i := 33) (by decide +kernel), List.mem_of_getElem? (i := 443) (by decide +kernel), List.mem_of_getElem? (i := 444) (by decide +kernel)⟩
theorem lw_p10 : lw_okq (⟨"PictureJoin", "isMark", "(II)Z"⟩, 6) := ⟨⟨by decide +kernel, by decide +kernel⟩, List.mem_of_getElem? (i := 14) (by decide +kernel), List.mem_of_getElem? (i := 455) (by decide +kernel), List.mem_of_getElem? (i := 456) (by decide +kernel)⟩
theorem lw_p11 : lw_okq (⟨"PictureJoin", "areTwo", "(II)Z"⟩, 6) := ⟨⟨by decide +kernel, by decide +kernel⟩, List.mem_of_getElem? (i := 14) (by decide +kernel), List.mem_of_getElem? (i := 463) (by decide +kernel), List.mem_of_getElem? (i := 464) (by decide +kernel)⟩
theorem lw_p12 : lw_okq (⟨"PictureJoin$Album", "isOpen", "(II)Z"⟩, 6) := ⟨⟨by decide +kernel, by decide +kernel⟩, List.mem_of_getElem? (i := 33) (by decide +kernel), List.mem_of_getElem? (i := 486) (by decide +kernel), List.mem_of_getElem? (i := 487) (by decide +kernel)⟩
theorem lw_p13 : lw_okq (⟨"PictureJoin", "refusalOfTwo", "(IIZ)I"⟩, 6) := ⟨⟨by decide +kernel, by decide +kernel⟩, List.mem_of_getElem? (i := 14) (by decide +kernel), List.mem_of_getElem? (i := 498) (by decide +kernel), List.mem_of_getElem? (i := 499) (by decide +kernel)⟩
theorem lw_p14 : lw_okq (⟨"PictureJoin$Seam", "cheapest", "(IIII)I"⟩, 3) := ⟨⟨by decide +kernel, by decide +kernel⟩, List.mem_of_getElem? (i := 233) (by decide +kernel), List.mem_of_getElem? (i := 548) (by decide +kernel), List.mem_of_getElem? (i := 549) (by decide +kernel)⟩
theorem lw_p15 : lw_okq (⟨"PictureJoin$Seam", "costAt", "(II)I"⟩, 3) := ⟨⟨by decide +kernel, by decide +kernel⟩, List.mem_of_getElem? (i := 233) (by decide +kernel), List.mem_of_getElem? (i := 553) (by decide +kernel), List.mem_of_getElem? (i := 554) (by decide +kernel)⟩
def lw_privs_1 : List (MethodName × Nat) := [(⟨"PictureJoin", "isDot", "(III)Z"⟩, 6), (⟨"PictureJoin", "isPicture", "(I)Z"⟩, 6), (⟨"PictureJoin$Dots", "changeAbout", "(IIII)I"⟩, 5), (⟨"PictureJoin$Marks", "insert", "(III)V"⟩, 5), (⟨"PictureJoin$Pairing", "shiftX", "(LPictureJoin$Marks;ILPictureJoin$Marks;)I"⟩, 5), (⟨"PictureJoin$Pairing", "shiftY", "(LPictureJoin$Marks;ILPictureJoin$Marks;)I"⟩, 5), (⟨"PictureJoin$Pairing", "propose", "(LPictureJoin$Marks;LPictureJoin$Marks;II)V"⟩, 5), (⟨"PictureJoin$Album", "joinAll", "()V"⟩, 6), (⟨"PictureJoin$Album", "put", "(IIII)V"⟩, 6), (⟨"PictureJoin$Album", "bestPair", "()I"⟩, 6), (⟨"PictureJoin", "isMark", "(II)Z"⟩, 6), (⟨"PictureJoin", "areTwo", "(II)Z"⟩, 6), (⟨"PictureJoin$Album", "isOpen", "(II)Z"⟩, 6), (⟨"PictureJoin", "refusalOfTwo", "(IIZ)I"⟩, 6), (⟨"PictureJoin$Seam", "cheapest", "(IIII)I"⟩, 3), (⟨"PictureJoin$Seam", "costAt", "(II)I"⟩, 3)]
theorem lw_r1 : ∀ q ∈ lw_privs_1, lw_okq q := List.forall_mem_cons.mpr ⟨lw_p0, List.forall_mem_cons.mpr ⟨lw_p1, List.forall_mem_cons.mpr ⟨lw_p2, List.forall_mem_cons.mpr ⟨lw_p3, List.forall_mem_cons.mpr ⟨lw_p4, List.forall_mem_cons.mpr ⟨lw_p5, List.forall_mem_cons.mpr ⟨lw_p6, List.forall_mem_cons.mpr ⟨lw_p7, List.forall_mem_cons.mpr ⟨lw_p8, List.forall_mem_cons.mpr ⟨lw_p9, List.forall_mem_cons.mpr ⟨lw_p10, List.forall_mem_cons.mpr ⟨lw_p11, List.forall_mem_cons.mpr ⟨lw_p12, List.forall_mem_cons.mpr ⟨lw_p13, List.forall_mem_cons.mpr ⟨lw_p14, List.forall_mem_cons.mpr ⟨lw_p15, fun _ h => absurd h List.not_mem_nil⟩⟩⟩⟩⟩⟩⟩⟩⟩⟩⟩⟩⟩⟩⟩⟩
theorem lw_p16 : lw_okq (⟨"PictureJoinModel", "lightAt", "(II)I"⟩, 27) := ⟨⟨by decide +kernel, by decide +kernel⟩, List.mem_of_getElem? (i := 587) (by decide +kernel), List.mem_of_getElem? (i := 686) (by decide +kernel), List.mem_of_getElem? (i := 687) (by decide +kernel)⟩
theorem lw_p17 : lw_okq (⟨"PictureJoinModel", "isDot", "(III)Z"⟩, 27) := ⟨⟨by decide +kernel, by decide +kernel⟩, List.mem_of_getElem? (i := 587) (by decide +kernel), List.mem_of_getElem? (i := 706) (by decide +kernel), List.mem_of_getElem? (i := 707) (by decide +kernel)⟩
theorem lw_p18 : lw_okq (⟨"PictureJoinModel", "isPicture", "(I)Z"⟩, 27) := ⟨⟨by decide +kernel, by decide +kernel⟩, List.mem_of_getElem? (i := 587) (by decide +kernel), List.mem_of_getElem? (i := 710) (by decide +kernel), List.mem_of_getElem? (i := 711) (by decide +kernel)⟩
theorem lw_p19 : lw_okq (⟨"PictureJoinModel", "dotAt", "(III)I"⟩, 27) := ⟨⟨by decide +kernel, by decide +kernel⟩, List.mem_of_getElem? (i := 587) (by decide +kernel), List.mem_of_getElem? (i := 716) (by decide +kernel), List.mem_of_getElem? (i := 717) (by decide +kernel)⟩
theorem lw_p20 : lw_okq (⟨"PictureJoinModel", "scoreOf", "(III)I"⟩, 27) := ⟨⟨by decide +kernel, by decide +kernel⟩, List.mem_of_getElem? (i := 587) (by decide +kernel), List.mem_of_getElem? (i := 733) (by decide +kernel), List.mem_of_getElem? (i := 734) (by decide +kernel)⟩
theorem lw_p21 : lw_okq (⟨"PictureJoinModel", "lay", "()V"⟩, 27) := ⟨⟨by decide +kernel, by decide +kernel⟩, List.mem_of_getElem? (i := 587) (by decide +kernel), List.mem_of_getElem? (i := 741) (by decide +kernel), List.mem_of_getElem? (i := 742) (by decide +kernel)⟩
theorem lw_p22 : lw_okq (⟨"PictureJoinModel", "layMarks", "(I)V"⟩, 27) := ⟨⟨by decide +kernel, by decide +kernel⟩, List.mem_of_getElem? (i := 587) (by decide +kernel), List.mem_of_getElem? (i := 745) (by decide +kernel), List.mem_of_getElem? (i := 746) (by decide +kernel)⟩
theorem lw_p23 : lw_okq (⟨"PictureJoinModel", "isMark", "(III)Z"⟩, 27) := ⟨⟨by decide +kernel, by decide +kernel⟩, List.mem_of_getElem? (i := 587) (by decide +kernel), List.mem_of_getElem? (i := 749) (by decide +kernel), List.mem_of_getElem? (i := 750) (by decide +kernel)⟩
theorem lw_p24 : lw_okq (⟨"PictureJoinModel", "putMark", "(II)V"⟩, 27) := ⟨⟨by decide +kernel, by decide +kernel⟩, List.mem_of_getElem? (i := 587) (by decide +kernel), List.mem_of_getElem? (i := 753) (by decide +kernel), List.mem_of_getElem? (i := 754) (by decide +kernel)⟩
theorem lw_p25 : lw_okq (⟨"PictureJoinModel", "signOf", "(III)I"⟩, 27) := ⟨⟨by decide +kernel, by decide +kernel⟩, List.mem_of_getElem? (i := 587) (by decide +kernel), List.mem_of_getElem? (i := 757) (by decide +kernel), List.mem_of_getElem? (i := 758) (by decide +kernel)⟩
theorem lw_p26 : lw_okq (⟨"PictureJoinModel", "layPair", "(II)V"⟩, 27) := ⟨⟨by decide +kernel, by decide +kernel⟩, List.mem_of_getElem? (i := 587) (by decide +kernel), List.mem_of_getElem? (i := 761) (by decide +kernel), List.mem_of_getElem? (i := 762) (by decide +kernel)⟩
theorem lw_p27 : lw_okq (⟨"PictureJoinModel", "nearest", "(III)I"⟩, 27) := ⟨⟨by decide +kernel, by decide +kernel⟩, List.mem_of_getElem? (i := 587) (by decide +kernel), List.mem_of_getElem? (i := 765) (by decide +kernel), List.mem_of_getElem? (i := 766) (by decide +kernel)⟩
theorem lw_p28 : lw_okq (⟨"PictureJoinModel", "distance", "(IIII)I"⟩, 27) := ⟨⟨by decide +kernel, by decide +kernel⟩, List.mem_of_getElem? (i := 587) (by decide +kernel), List.mem_of_getElem? (i := 769) (by decide +kernel), List.mem_of_getElem? (i := 770) (by decide +kernel)⟩
theorem lw_p29 : lw_okq (⟨"PictureJoinModel", "markX", "(II)I"⟩, 27) := ⟨⟨by decide +kernel, by decide +kernel⟩, List.mem_of_getElem? (i := 587) (by decide +kernel), List.mem_of_getElem? (i := 776) (by decide +kernel), List.mem_of_getElem? (i := 777) (by decide +kernel)⟩
theorem lw_p30 : lw_okq (⟨"PictureJoinModel", "markY", "(II)I"⟩, 27) := ⟨⟨by decide +kernel, by decide +kernel⟩, List.mem_of_getElem? (i := 587) (by decide +kernel), List.mem_of_getElem? (i := 780) (by decide +kernel), List.mem_of_getElem? (i := 781) (by decide +kernel)⟩
theorem lw_p31 : lw_okq (⟨"PictureJoinModel", "votesFor", "(IIII)I"⟩, 27) := ⟨⟨by decide +kernel, by decide +kernel⟩, List.mem_of_getElem? (i := 587) (by decide +kernel), List.mem_of_getElem? (i := 784) (by decide +kernel), List.mem_of_getElem? (i := 785) (by decide +kernel)⟩
def lw_privs_2 : List (MethodName × Nat) := [(⟨"PictureJoinModel", "lightAt", "(II)I"⟩, 27), (⟨"PictureJoinModel", "isDot", "(III)Z"⟩, 27), (⟨"PictureJoinModel", "isPicture", "(I)Z"⟩, 27), (⟨"PictureJoinModel", "dotAt", "(III)I"⟩, 27), (⟨"PictureJoinModel", "scoreOf", "(III)I"⟩, 27), (⟨"PictureJoinModel", "lay", "()V"⟩, 27), (⟨"PictureJoinModel", "layMarks", "(I)V"⟩, 27), (⟨"PictureJoinModel", "isMark", "(III)Z"⟩, 27), (⟨"PictureJoinModel", "putMark", "(II)V"⟩, 27), (⟨"PictureJoinModel", "signOf", "(III)I"⟩, 27), (⟨"PictureJoinModel", "layPair", "(II)V"⟩, 27), (⟨"PictureJoinModel", "nearest", "(III)I"⟩, 27), (⟨"PictureJoinModel", "distance", "(IIII)I"⟩, 27), (⟨"PictureJoinModel", "markX", "(II)I"⟩, 27), (⟨"PictureJoinModel", "markY", "(II)I"⟩, 27), (⟨"PictureJoinModel", "votesFor", "(IIII)I"⟩, 27)]
theorem lw_r2 : ∀ q ∈ lw_privs_2, lw_okq q := List.forall_mem_cons.mpr ⟨lw_p16, List.forall_mem_cons.mpr ⟨lw_p17, List.forall_mem_cons.mpr ⟨lw_p18, List.forall_mem_cons.mpr ⟨lw_p19, List.forall_mem_cons.mpr ⟨lw_p20, List.forall_mem_cons.mpr ⟨lw_p21, List.forall_mem_cons.mpr ⟨lw_p22, List.forall_mem_cons.mpr ⟨lw_p23, List.forall_mem_cons.mpr ⟨lw_p24, List.forall_mem_cons.mpr ⟨lw_p25, List.forall_mem_cons.mpr ⟨lw_p26, List.forall_mem_cons.mpr ⟨lw_p27, List.forall_mem_cons.mpr ⟨lw_p28, List.forall_mem_cons.mpr ⟨lw_p29, List.forall_mem_cons.mpr ⟨lw_p30, List.forall_mem_cons.mpr ⟨lw_p31, fun _ h => absurd h List.not_mem_nil⟩⟩⟩⟩⟩⟩⟩⟩⟩⟩⟩⟩⟩⟩⟩⟩
theorem lw_p32 : lw_okq (⟨"PictureJoinModel", "layPlaces", "()V"⟩, 27) := ⟨⟨by decide +kernel, by decide +kernel⟩, List.mem_of_getElem? (i := 587) (by decide +kernel), List.mem_of_getElem? (i := 788) (by decide +kernel), List.mem_of_getElem? (i := 789) (by decide +kernel)⟩
theorem lw_p33 : lw_okq (⟨"PictureJoinModel", "hasMark", "(II)Z"⟩, 27) := ⟨⟨by decide +kernel, by decide +kernel⟩, List.mem_of_getElem? (i := 587) (by decide +kernel), List.mem_of_getElem? (i := 796) (by decide +kernel), List.mem_of_getElem? (i := 797) (by decide +kernel)⟩
theorem lw_p34 : lw_okq (⟨"PictureJoinModel", "arePair", "(II)Z"⟩, 27) := ⟨⟨by decide +kernel, by decide +kernel⟩, List.mem_of_getElem? (i := 587) (by decide +kernel), List.mem_of_getElem? (i := 808) (by decide +kernel), List.mem_of_getElem? (i := 809) (by decide +kernel)⟩
theorem lw_p35 : lw_okq (⟨"PictureJoinModel", "barsOverlap", "(IIZ)I"⟩, 27) := ⟨⟨by decide +kernel, by decide +kernel⟩, List.mem_of_getElem? (i := 587) (by decide +kernel), List.mem_of_getElem? (i := 829) (by decide +kernel), List.mem_of_getElem? (i := 830) (by decide +kernel)⟩
theorem lw_p36 : lw_okq (⟨"PictureJoinModel", "layOverlap", "(II)V"⟩, 27) := ⟨⟨by decide +kernel, by decide +kernel⟩, List.mem_of_getElem? (i := 587) (by decide +kernel), List.mem_of_getElem? (i := 833) (by decide +kernel), List.mem_of_getElem? (i := 834) (by decide +kernel)⟩
theorem lw_p37 : lw_okq (⟨"PictureJoinModel", "dotOver", "(III)I"⟩, 27) := ⟨⟨by decide +kernel, by decide +kernel⟩, List.mem_of_getElem? (i := 587) (by decide +kernel), List.mem_of_getElem? (i := 842) (by decide +kernel), List.mem_of_getElem? (i := 843) (by decide +kernel)⟩
theorem lw_p38 : lw_okq (⟨"PictureJoinModel", "below", "(II)I"⟩, 27) := ⟨⟨by decide +kernel, by decide +kernel⟩, List.mem_of_getElem? (i := 587) (by decide +kernel), List.mem_of_getElem? (i := 850) (by decide +kernel), List.mem_of_getElem? (i := 851) (by decide +kernel)⟩
theorem lw_p39 : lw_okq (⟨"PictureJoinModel", "leastAt", "(II)I"⟩, 27) := ⟨⟨by decide +kernel, by decide +kernel⟩, List.mem_of_getElem? (i := 587) (by decide +kernel), List.mem_of_getElem? (i := 854) (by decide +kernel), List.mem_of_getElem? (i := 855) (by decide +kernel)⟩
theorem lw_p40 : lw_okq (⟨"PictureJoinModel", "pictureAt", "(II)I"⟩, 27) := ⟨⟨by decide +kernel, by decide +kernel⟩, List.mem_of_getElem? (i := 587) (by decide +kernel), List.mem_of_getElem? (i := 862) (by decide +kernel), List.mem_of_getElem? (i := 863) (by decide +kernel)⟩
theorem lw_p41 : lw_okq (⟨"PictureJoinModel", "edge", "(I)I"⟩, 27) := ⟨⟨by decide +kernel, by decide +kernel⟩, List.mem_of_getElem? (i := 587) (by decide +kernel), List.mem_of_getElem? (i := 870) (by decide +kernel), List.mem_of_getElem? (i := 871) (by decide +kernel)⟩
def lw_privs_3 : List (MethodName × Nat) := [(⟨"PictureJoinModel", "layPlaces", "()V"⟩, 27), (⟨"PictureJoinModel", "hasMark", "(II)Z"⟩, 27), (⟨"PictureJoinModel", "arePair", "(II)Z"⟩, 27), (⟨"PictureJoinModel", "barsOverlap", "(IIZ)I"⟩, 27), (⟨"PictureJoinModel", "layOverlap", "(II)V"⟩, 27), (⟨"PictureJoinModel", "dotOver", "(III)I"⟩, 27), (⟨"PictureJoinModel", "below", "(II)I"⟩, 27), (⟨"PictureJoinModel", "leastAt", "(II)I"⟩, 27), (⟨"PictureJoinModel", "pictureAt", "(II)I"⟩, 27), (⟨"PictureJoinModel", "edge", "(I)I"⟩, 27)]
theorem lw_r3 : ∀ q ∈ lw_privs_3, lw_okq q := List.forall_mem_cons.mpr ⟨lw_p32, List.forall_mem_cons.mpr ⟨lw_p33, List.forall_mem_cons.mpr ⟨lw_p34, List.forall_mem_cons.mpr ⟨lw_p35, List.forall_mem_cons.mpr ⟨lw_p36, List.forall_mem_cons.mpr ⟨lw_p37, List.forall_mem_cons.mpr ⟨lw_p38, List.forall_mem_cons.mpr ⟨lw_p39, List.forall_mem_cons.mpr ⟨lw_p40, List.forall_mem_cons.mpr ⟨lw_p41, fun _ h => absurd h List.not_mem_nil⟩⟩⟩⟩⟩⟩⟩⟩⟩⟩
def lw_privs : List (MethodName × Nat) := lw_privs_1 ++ (lw_privs_2 ++ (lw_privs_3))
def lw_tbl : List Cond := k2_sels lw_privs ++ tables_1
theorem lw_privs_ok : ∀ q ∈ lw_privs, lw_okq q := by
  show ∀ q ∈ lw_privs_1 ++ (lw_privs_2 ++ (lw_privs_3)), lw_okq q
  exact List.forall_mem_append.mpr ⟨lw_r1, List.forall_mem_append.mpr ⟨lw_r2, lw_r3⟩⟩
-- ===== end of PART A; then your names; then what follows =====
end
section
def RX0 : String := "PictureJoin$Album"
def TX0 : u_T := fun k => match k with
  | 0 => ("PictureJoin$Album", "pictures", "[LPictureJoin$Picture;", true)
  | 1 => ("PictureJoin$Album", "pairings", "[LPictureJoin$Pairing;", true)
  | 2 => ("PictureJoin$Album", "order", "[I", true)
  | 3 => ("PictureJoin$Album", "count", "I", false)
  | 4 => ("PictureJoin$Album", "joinedCount", "I", false)
  | _ => ("PictureJoin$Album", "stale", "Z", false)
def tyX0 : Nat → FieldType := fun k => match k with
  | 0 => .array (.object "PictureJoin$Picture")
  | 1 => .array (.object "PictureJoin$Pairing")
  | 2 => .array .int
  | 3 => .int
  | 4 => .int
  | _ => .boolean
abbrev wsX00 : List Cond := u_ws RX0 TX0 6
theorem nmX0 : ∀ a, a < 6 → ∀ b, b < 6 → a ≠ b → (TX0 a).2.1 ≠ (TX0 b).2.1 := by decide +kernel
theorem tyX0_ok : ∀ k, k < 6 → parseFieldDescriptor (TX0 k).2.2.1 = some (tyX0 k) := by decide +kernel
abbrev cX0_init : ByteArray := prog_2_method_1_code
def yX0_init : MethodName := ⟨RX0, "<init>", "()V"⟩
abbrev cX0_pairingOf : ByteArray := prog_2_method_2_code
def yX0_pairingOf : MethodName := ⟨RX0, "pairingOf", "(II)LPictureJoin$Pairing;"⟩
abbrev cX0_settle : ByteArray := prog_2_method_3_code
def yX0_settle : MethodName := ⟨RX0, "settle", "(II)V"⟩
abbrev cX0_joinAll : ByteArray := prog_2_method_4_code
def yX0_joinAll : MethodName := ⟨RX0, "joinAll", "()V"⟩
abbrev cX0_put : ByteArray := prog_2_method_5_code
def yX0_put : MethodName := ⟨RX0, "put", "(IIII)V"⟩
abbrev cX0_bestPair : ByteArray := prog_2_method_6_code
def yX0_bestPair : MethodName := ⟨RX0, "bestPair", "()I"⟩
abbrev cX0_countOpen : ByteArray := prog_2_method_7_code
def yX0_countOpen : MethodName := ⟨RX0, "countOpen", "()I"⟩
abbrev cX0_isOpen : ByteArray := prog_2_method_8_code
def yX0_isOpen : MethodName := ⟨RX0, "isOpen", "(II)Z"⟩
abbrev cX0_firstAt : ByteArray := prog_2_method_9_code
def yX0_firstAt : MethodName := ⟨RX0, "firstAt", "(II)I"⟩
abbrev cX0_edge : ByteArray := prog_2_method_10_code
def yX0_edge : MethodName := ⟨RX0, "edge", "(I)I"⟩
abbrev cX0_countPlaces : ByteArray := prog_2_method_11_code
def yX0_countPlaces : MethodName := ⟨RX0, "countPlaces", "()I"⟩
def RX1 : String := "PictureJoin$Dots"
def TX1 : u_T := fun k => match k with
  | 0 => ("PictureJoin$Dots", "values", "[I", true)
  | 1 => ("PictureJoin$Dots", "scores", "[I", true)
  | 2 => ("PictureJoin$Dots", "width", "I", false)
  | 3 => ("PictureJoin$Dots", "height", "I", false)
  | _ => ("PictureJoin$Dots", "changed", "Z", false)
def tyX1 : Nat → FieldType := fun k => match k with
  | 0 => .array .int
  | 1 => .array .int
  | 2 => .int
  | 3 => .int
  | _ => .boolean
abbrev wsX10 : List Cond := u_ws RX1 TX1 5
theorem nmX1 : ∀ a, a < 5 → ∀ b, b < 5 → a ≠ b → (TX1 a).2.1 ≠ (TX1 b).2.1 := by decide +kernel
theorem tyX1_ok : ∀ k, k < 5 → parseFieldDescriptor (TX1 k).2.2.1 = some (tyX1 k) := by decide +kernel
abbrev cX1_init : ByteArray := prog_3_method_1_code
def yX1_init : MethodName := ⟨RX1, "<init>", "()V"⟩
abbrev cX1_resize : ByteArray := prog_3_method_2_code
def yX1_resize : MethodName := ⟨RX1, "resize", "(II)V"⟩
abbrev cX1_has : ByteArray := prog_3_method_3_code
def yX1_has : MethodName := ⟨RX1, "has", "(II)Z"⟩
abbrev cX1_get : ByteArray := prog_3_method_4_code
def yX1_get : MethodName := ⟨RX1, "get", "(II)I"⟩
abbrev cX1_put : ByteArray := prog_3_method_5_code
def yX1_put : MethodName := ⟨RX1, "put", "(III)V"⟩
abbrev cX1_scoreOf : ByteArray := prog_3_method_6_code
def yX1_scoreOf : MethodName := ⟨RX1, "scoreOf", "(II)I"⟩
abbrev cX1_changeAbout : ByteArray := prog_3_method_7_code
def yX1_changeAbout : MethodName := ⟨RX1, "changeAbout", "(IIII)I"⟩
abbrev cX1_scoreAll : ByteArray := prog_3_method_8_code
def yX1_scoreAll : MethodName := ⟨RX1, "scoreAll", "()V"⟩
abbrev cX1_keptScore : ByteArray := prog_3_method_9_code
def yX1_keptScore : MethodName := ⟨RX1, "keptScore", "(II)I"⟩
abbrev cX1_isPeak : ByteArray := prog_3_method_10_code
def yX1_isPeak : MethodName := ⟨RX1, "isPeak", "(II)Z"⟩
abbrev cX1_signOf : ByteArray := prog_3_method_11_code
def yX1_signOf : MethodName := ⟨RX1, "signOf", "(II)I"⟩
def RX2 : String := "PictureJoin$Marks"
def TX2 : u_T := fun k => match k with
  | 0 => ("PictureJoin$Marks", "columns", "[I", true)
  | 1 => ("PictureJoin$Marks", "rows", "[I", true)
  | 2 => ("PictureJoin$Marks", "heights", "[I", true)
  | 3 => ("PictureJoin$Marks", "signs", "[I", true)
  | _ => ("PictureJoin$Marks", "count", "I", false)
def tyX2 : Nat → FieldType := fun k => match k with
  | 0 => .array .int
  | 1 => .array .int
  | 2 => .array .int
  | 3 => .array .int
  | _ => .int
abbrev wsX20 : List Cond := u_ws RX2 TX2 5
theorem nmX2 : ∀ a, a < 5 → ∀ b, b < 5 → a ≠ b → (TX2 a).2.1 ≠ (TX2 b).2.1 := by decide +kernel
theorem tyX2_ok : ∀ k, k < 5 → parseFieldDescriptor (TX2 k).2.2.1 = some (tyX2 k) := by decide +kernel
abbrev cX2_init : ByteArray := prog_4_method_1_code
def yX2_init : MethodName := ⟨RX2, "<init>", "()V"⟩
abbrev cX2_find : ByteArray := prog_4_method_2_code
def yX2_find : MethodName := ⟨RX2, "find", "(LPictureJoin$Dots;I)V"⟩
abbrev cX2_insert : ByteArray := prog_4_method_3_code
def yX2_insert : MethodName := ⟨RX2, "insert", "(III)V"⟩
abbrev cX2_nearestTo : ByteArray := prog_4_method_4_code
def yX2_nearestTo : MethodName := ⟨RX2, "nearestTo", "(I)I"⟩
def RX3 : String := "PictureJoin$Overlap"
def TX3 : u_T := fun k => match k with
  | 0 => ("PictureJoin$Overlap", "x", "I", false)
  | 1 => ("PictureJoin$Overlap", "y", "I", false)
  | 2 => ("PictureJoin$Overlap", "width", "I", false)
  | 3 => ("PictureJoin$Overlap", "height", "I", false)
  | 4 => ("PictureJoin$Overlap", "firstLight", "I", false)
  | 5 => ("PictureJoin$Overlap", "secondLight", "I", false)
  | _ => ("PictureJoin$Overlap", "bothTold", "I", false)
def tyX3 : Nat → FieldType := fun k => match k with
  | 0 => .int
  | 1 => .int
  | 2 => .int
  | 3 => .int
  | 4 => .int
  | 5 => .int
  | _ => .int
abbrev wsX30 : List Cond := u_ws RX3 TX3 7
theorem nmX3 : ∀ a, a < 7 → ∀ b, b < 7 → a ≠ b → (TX3 a).2.1 ≠ (TX3 b).2.1 := by decide +kernel
theorem tyX3_ok : ∀ k, k < 7 → parseFieldDescriptor (TX3 k).2.2.1 = some (tyX3 k) := by decide +kernel
abbrev cX3_init : ByteArray := prog_5_method_1_code
def yX3_init : MethodName := ⟨RX3, "<init>", "()V"⟩
abbrev cX3_find : ByteArray := prog_5_method_2_code
def yX3_find : MethodName := ⟨RX3, "find", "(LPictureJoin$Picture;LPictureJoin$Picture;)V"⟩
abbrev cX3_isThere : ByteArray := prog_5_method_3_code
def yX3_isThere : MethodName := ⟨RX3, "isThere", "()Z"⟩
abbrev cX3_compare : ByteArray := prog_5_method_4_code
def yX3_compare : MethodName := ⟨RX3, "compare", "(LPictureJoin$Picture;LPictureJoin$Picture;)V"⟩
def RX4 : String := "PictureJoin$Pairing"
def TX4 : u_T := fun k => match k with
  | 0 => ("PictureJoin$Pairing", "partners", "[I", true)
  | 1 => ("PictureJoin$Pairing", "matches", "I", false)
  | 2 => ("PictureJoin$Pairing", "votes", "I", false)
  | 3 => ("PictureJoin$Pairing", "x", "I", false)
  | _ => ("PictureJoin$Pairing", "y", "I", false)
def tyX4 : Nat → FieldType := fun k => match k with
  | 0 => .array .int
  | 1 => .int
  | 2 => .int
  | 3 => .int
  | _ => .int
abbrev wsX40 : List Cond := u_ws RX4 TX4 5
theorem nmX4 : ∀ a, a < 5 → ∀ b, b < 5 → a ≠ b → (TX4 a).2.1 ≠ (TX4 b).2.1 := by decide +kernel
theorem tyX4_ok : ∀ k, k < 5 → parseFieldDescriptor (TX4 k).2.2.1 = some (tyX4 k) := by decide +kernel
abbrev cX4_init : ByteArray := prog_6_method_1_code
def yX4_init : MethodName := ⟨RX4, "<init>", "()V"⟩
abbrev cX4_find : ByteArray := prog_6_method_2_code
def yX4_find : MethodName := ⟨RX4, "find", "(LPictureJoin$Marks;LPictureJoin$Marks;I)V"⟩
abbrev cX4_partnerOf : ByteArray := prog_6_method_3_code
def yX4_partnerOf : MethodName := ⟨RX4, "partnerOf", "(LPictureJoin$Marks;ILPictureJoin$Marks;I)I"⟩
abbrev cX4_shiftX : ByteArray := prog_6_method_4_code
def yX4_shiftX : MethodName := ⟨RX4, "shiftX", "(LPictureJoin$Marks;ILPictureJoin$Marks;)I"⟩
abbrev cX4_shiftY : ByteArray := prog_6_method_5_code
def yX4_shiftY : MethodName := ⟨RX4, "shiftY", "(LPictureJoin$Marks;ILPictureJoin$Marks;)I"⟩
abbrev cX4_propose : ByteArray := prog_6_method_6_code
def yX4_propose : MethodName := ⟨RX4, "propose", "(LPictureJoin$Marks;LPictureJoin$Marks;II)V"⟩
def RX5 : String := "PictureJoin$Picture"
def TX5 : u_T := fun k => match k with
  | 0 => ("PictureJoin$Picture", "dots", "LPictureJoin$Dots;", true)
  | 1 => ("PictureJoin$Picture", "marks", "LPictureJoin$Marks;", true)
  | 2 => ("PictureJoin$Picture", "x", "I", false)
  | 3 => ("PictureJoin$Picture", "y", "I", false)
  | 4 => ("PictureJoin$Picture", "joiner", "I", false)
  | _ => ("PictureJoin$Picture", "rank", "I", false)
def tyX5 : Nat → FieldType := fun k => match k with
  | 0 => .object "PictureJoin$Dots"
  | 1 => .object "PictureJoin$Marks"
  | 2 => .int
  | 3 => .int
  | 4 => .int
  | _ => .int
abbrev wsX50 : List Cond := u_ws RX5 TX5 6
theorem nmX5 : ∀ a, a < 6 → ∀ b, b < 6 → a ≠ b → (TX5 a).2.1 ≠ (TX5 b).2.1 := by decide +kernel
theorem tyX5_ok : ∀ k, k < 6 → parseFieldDescriptor (TX5 k).2.2.1 = some (tyX5 k) := by decide +kernel
abbrev cX5_init : ByteArray := prog_7_method_1_code
def yX5_init : MethodName := ⟨RX5, "<init>", "()V"⟩
abbrev cX5_isJoined : ByteArray := prog_7_method_2_code
def yX5_isJoined : MethodName := ⟨RX5, "isJoined", "()Z"⟩
abbrev cX5_dotAt : ByteArray := prog_7_method_3_code
def yX5_dotAt : MethodName := ⟨RX5, "dotAt", "(II)I"⟩
abbrev cX5_edge : ByteArray := prog_7_method_4_code
def yX5_edge : MethodName := ⟨RX5, "edge", "(I)I"⟩
def RX6 : String := "PictureJoin$Seam"
def TX6 : u_T := fun k => match k with
  | 0 => ("PictureJoin$Seam", "costs", "[I", true)
  | 1 => ("PictureJoin$Seam", "columns", "[I", true)
  | _ => ("PictureJoin$Seam", "cost", "I", false)
def tyX6 : Nat → FieldType := fun k => match k with
  | 0 => .array .int
  | 1 => .array .int
  | _ => .int
abbrev wsX60 : List Cond := u_ws RX6 TX6 3
theorem nmX6 : ∀ a, a < 3 → ∀ b, b < 3 → a ≠ b → (TX6 a).2.1 ≠ (TX6 b).2.1 := by decide +kernel
theorem tyX6_ok : ∀ k, k < 3 → parseFieldDescriptor (TX6 k).2.2.1 = some (tyX6 k) := by decide +kernel
abbrev cX6_init : ByteArray := prog_8_method_1_code
def yX6_init : MethodName := ⟨RX6, "<init>", "()V"⟩
abbrev cX6_find : ByteArray := prog_8_method_2_code
def yX6_find : MethodName := ⟨RX6, "find", "(LPictureJoin$Overlap;LPictureJoin$Picture;LPictureJoin$Picture;)V"⟩
abbrev cX6_unlikeness : ByteArray := prog_8_method_3_code
def yX6_unlikeness : MethodName := ⟨RX6, "unlikeness", "(LPictureJoin$Picture;LPictureJoin$Picture;II)I"⟩
abbrev cX6_costAt : ByteArray := prog_8_method_4_code
def yX6_costAt : MethodName := ⟨RX6, "costAt", "(II)I"⟩
abbrev cX6_cheapest : ByteArray := prog_8_method_5_code
def yX6_cheapest : MethodName := ⟨RX6, "cheapest", "(IIII)I"⟩
def RX7 : String := "PictureJoin$World"
def TX7 : u_T := fun k => match k with
  | _ => ("PictureJoin$World", "seed", "I", false)
def tyX7 : Nat → FieldType := fun k => match k with
  | _ => .int
abbrev wsX70 : List Cond := u_ws RX7 TX7 1
theorem nmX7 : ∀ a, a < 1 → ∀ b, b < 1 → a ≠ b → (TX7 a).2.1 ≠ (TX7 b).2.1 := by decide +kernel
theorem tyX7_ok : ∀ k, k < 1 → parseFieldDescriptor (TX7 k).2.2.1 = some (tyX7 k) := by decide +kernel
abbrev cX7_init : ByteArray := prog_9_method_1_code
def yX7_init : MethodName := ⟨RX7, "<init>", "()V"⟩
abbrev cX7_lightAt : ByteArray := prog_9_method_2_code
def yX7_lightAt : MethodName := ⟨RX7, "lightAt", "(II)I"⟩
abbrev cX7_shootInto : ByteArray := prog_9_method_3_code
def yX7_shootInto : MethodName := ⟨RX7, "shootInto", "(LPictureJoin$Dots;III)V"⟩
def RX8 : String := "PictureJoin"
def TX8 : u_T := fun k => match k with
  | 0 => ("PictureJoin", "world", "LPictureJoin$World;", true)
  | 1 => ("PictureJoin", "album", "LPictureJoin$Album;", true)
  | 2 => ("PictureJoin", "common", "LPictureJoin$Overlap;", true)
  | 3 => ("PictureJoin", "cut", "LPictureJoin$Seam;", true)
  | 4 => ("PictureJoin", "bar", "I", false)
  | _ => ("PictureJoin", "near", "I", false)
def tyX8 : Nat → FieldType := fun k => match k with
  | 0 => .object "PictureJoin$World"
  | 1 => .object "PictureJoin$Album"
  | 2 => .object "PictureJoin$Overlap"
  | 3 => .object "PictureJoin$Seam"
  | 4 => .int
  | _ => .int
abbrev wsX80 : List Cond := u_ws RX8 TX8 6
theorem nmX8 : ∀ a, a < 6 → ∀ b, b < 6 → a ≠ b → (TX8 a).2.1 ≠ (TX8 b).2.1 := by decide +kernel
theorem tyX8_ok : ∀ k, k < 6 → parseFieldDescriptor (TX8 k).2.2.1 = some (tyX8 k) := by decide +kernel
abbrev cX8_init : ByteArray := prog_1_method_1_code
def yX8_init : MethodName := ⟨RX8, "<init>", "()V"⟩
abbrev cX8_seed : ByteArray := prog_1_method_2_code
def yX8_seed : MethodName := ⟨RX8, "seed", "(I)I"⟩
abbrev cX8_light : ByteArray := prog_1_method_3_code
def yX8_light : MethodName := ⟨RX8, "light", "(II)I"⟩
abbrev cX8_shoot : ByteArray := prog_1_method_4_code
def yX8_shoot : MethodName := ⟨RX8, "shoot", "(IIIII)I"⟩
abbrev cX8_clear : ByteArray := prog_1_method_5_code
def yX8_clear : MethodName := ⟨RX8, "clear", "()I"⟩
abbrev cX8_dot : ByteArray := prog_1_method_6_code
def yX8_dot : MethodName := ⟨RX8, "dot", "(IIII)I"⟩
abbrev cX8_at : ByteArray := prog_1_method_7_code
def yX8_at : MethodName := ⟨RX8, "at", "(III)I"⟩
abbrev cX8_rules : ByteArray := prog_1_method_8_code
def yX8_rules : MethodName := ⟨RX8, "rules", "(II)I"⟩
abbrev cX8_score : ByteArray := prog_1_method_9_code
def yX8_score : MethodName := ⟨RX8, "score", "(III)I"⟩
abbrev cX8_marks : ByteArray := prog_1_method_10_code
def yX8_marks : MethodName := ⟨RX8, "marks", "(I)I"⟩
abbrev cX8_mark : ByteArray := prog_1_method_11_code
def yX8_mark : MethodName := ⟨RX8, "mark", "(III)I"⟩
abbrev cX8_match : ByteArray := prog_1_method_12_code
def yX8_match : MethodName := ⟨RX8, "match", "(III)I"⟩
abbrev cX8_shift : ByteArray := prog_1_method_13_code
def yX8_shift : MethodName := ⟨RX8, "shift", "(III)I"⟩
abbrev cX8_place : ByteArray := prog_1_method_14_code
def yX8_place : MethodName := ⟨RX8, "place", "(II)I"⟩
abbrev cX8_open : ByteArray := prog_1_method_15_code
def yX8_open : MethodName := ⟨RX8, "open", "()I"⟩
abbrev cX8_joined : ByteArray := prog_1_method_16_code
def yX8_joined : MethodName := ⟨RX8, "joined", "()I"⟩
abbrev cX8_overlap : ByteArray := prog_1_method_17_code
def yX8_overlap : MethodName := ⟨RX8, "overlap", "(III)I"⟩
abbrev cX8_lights : ByteArray := prog_1_method_18_code
def yX8_lights : MethodName := ⟨RX8, "lights", "(III)I"⟩
abbrev cX8_seam : ByteArray := prog_1_method_19_code
def yX8_seam : MethodName := ⟨RX8, "seam", "(III)I"⟩
abbrev cX8_whole : ByteArray := prog_1_method_20_code
def yX8_whole : MethodName := ⟨RX8, "whole", "(III)I"⟩
abbrev cX8_extent : ByteArray := prog_1_method_21_code
def yX8_extent : MethodName := ⟨RX8, "extent", "(I)I"⟩
abbrev cX8_told : ByteArray := prog_1_method_22_code
def yX8_told : MethodName := ⟨RX8, "told", "(I)I"⟩
abbrev cX8_within : ByteArray := prog_1_method_23_code
def yX8_within : MethodName := ⟨RX8, "within", "(III)Z"⟩
abbrev cX8_isPicture : ByteArray := prog_1_method_24_code
def yX8_isPicture : MethodName := ⟨RX8, "isPicture", "(I)Z"⟩
abbrev cX8_isDot : ByteArray := prog_1_method_25_code
def yX8_isDot : MethodName := ⟨RX8, "isDot", "(III)Z"⟩
abbrev cX8_isMark : ByteArray := prog_1_method_26_code
def yX8_isMark : MethodName := ⟨RX8, "isMark", "(II)Z"⟩
abbrev cX8_areTwo : ByteArray := prog_1_method_27_code
def yX8_areTwo : MethodName := ⟨RX8, "areTwo", "(II)Z"⟩
abbrev cX8_refusalOfTwo : ByteArray := prog_1_method_28_code
def yX8_refusalOfTwo : MethodName := ⟨RX8, "refusalOfTwo", "(IIZ)I"⟩
def RX9 : String := "PictureJoinModel"
def TX9 : u_T := fun k => match k with
  | 0 => ("PictureJoinModel", "seed", "I", false)
  | 1 => ("PictureJoinModel", "pictures", "I", false)
  | 2 => ("PictureJoinModel", "wide", "[I", true)
  | 3 => ("PictureJoinModel", "high", "[I", true)
  | 4 => ("PictureJoinModel", "dots", "[I", true)
  | 5 => ("PictureJoinModel", "bar", "I", false)
  | 6 => ("PictureJoinModel", "near", "I", false)
  | 7 => ("PictureJoinModel", "isLaid", "Z", false)
  | 8 => ("PictureJoinModel", "score", "[I", true)
  | 9 => ("PictureJoinModel", "marks", "[I", true)
  | 10 => ("PictureJoinModel", "markAt", "[I", true)
  | 11 => ("PictureJoinModel", "sign", "[I", true)
  | 12 => ("PictureJoinModel", "match", "[I", true)
  | 13 => ("PictureJoinModel", "shiftX", "[I", true)
  | 14 => ("PictureJoinModel", "shiftY", "[I", true)
  | 15 => ("PictureJoinModel", "votes", "[I", true)
  | 16 => ("PictureJoinModel", "matches", "[I", true)
  | 17 => ("PictureJoinModel", "joined", "I", false)
  | 18 => ("PictureJoinModel", "placeX", "[I", true)
  | 19 => ("PictureJoinModel", "placeY", "[I", true)
  | 20 => ("PictureJoinModel", "by", "[I", true)
  | 21 => ("PictureJoinModel", "order", "[I", true)
  | 22 => ("PictureJoinModel", "overX", "I", false)
  | 23 => ("PictureJoinModel", "overY", "I", false)
  | 24 => ("PictureJoinModel", "overWide", "I", false)
  | 25 => ("PictureJoinModel", "overHigh", "I", false)
  | _ => ("PictureJoinModel", "least", "[I", true)
def tyX9 : Nat → FieldType := fun k => match k with
  | 0 => .int
  | 1 => .int
  | 2 => .array .int
  | 3 => .array .int
  | 4 => .array .int
  | 5 => .int
  | 6 => .int
  | 7 => .boolean
  | 8 => .array .int
  | 9 => .array .int
  | 10 => .array .int
  | 11 => .array .int
  | 12 => .array .int
  | 13 => .array .int
  | 14 => .array .int
  | 15 => .array .int
  | 16 => .array .int
  | 17 => .int
  | 18 => .array .int
  | 19 => .array .int
  | 20 => .array .int
  | 21 => .array .int
  | 22 => .int
  | 23 => .int
  | 24 => .int
  | 25 => .int
  | _ => .array .int
abbrev wsX90 : List Cond := u_ws RX9 TX9 27
theorem nmX9 : ∀ a, a < 27 → ∀ b, b < 27 → a ≠ b → (TX9 a).2.1 ≠ (TX9 b).2.1 := by decide +kernel
theorem tyX9_ok : ∀ k, k < 27 → parseFieldDescriptor (TX9 k).2.2.1 = some (tyX9 k) := by decide +kernel
abbrev cX9_init : ByteArray := prog_11_method_1_code
def yX9_init : MethodName := ⟨RX9, "<init>", "()V"⟩
abbrev cX9_in : ByteArray := prog_11_method_2_code
def yX9_in : MethodName := ⟨RX9, "in", "(III)Z"⟩
abbrev cX9_isPicture : ByteArray := prog_11_method_3_code
def yX9_isPicture : MethodName := ⟨RX9, "isPicture", "(I)Z"⟩
abbrev cX9_seed : ByteArray := prog_11_method_4_code
def yX9_seed : MethodName := ⟨RX9, "seed", "(I)I"⟩
abbrev cX9_lightAt : ByteArray := prog_11_method_5_code
def yX9_lightAt : MethodName := ⟨RX9, "lightAt", "(II)I"⟩
abbrev cX9_light : ByteArray := prog_11_method_6_code
def yX9_light : MethodName := ⟨RX9, "light", "(II)I"⟩
abbrev cX9_shoot : ByteArray := prog_11_method_7_code
def yX9_shoot : MethodName := ⟨RX9, "shoot", "(IIIII)I"⟩
abbrev cX9_clear : ByteArray := prog_11_method_8_code
def yX9_clear : MethodName := ⟨RX9, "clear", "()I"⟩
abbrev cX9_isDot : ByteArray := prog_11_method_9_code
def yX9_isDot : MethodName := ⟨RX9, "isDot", "(III)Z"⟩
abbrev cX9_dotAt : ByteArray := prog_11_method_10_code
def yX9_dotAt : MethodName := ⟨RX9, "dotAt", "(III)I"⟩
abbrev cX9_dot : ByteArray := prog_11_method_11_code
def yX9_dot : MethodName := ⟨RX9, "dot", "(IIII)I"⟩
abbrev cX9_at : ByteArray := prog_11_method_12_code
def yX9_at : MethodName := ⟨RX9, "at", "(III)I"⟩
abbrev cX9_rules : ByteArray := prog_11_method_13_code
def yX9_rules : MethodName := ⟨RX9, "rules", "(II)I"⟩
abbrev cX9_scoreOf : ByteArray := prog_11_method_14_code
def yX9_scoreOf : MethodName := ⟨RX9, "scoreOf", "(III)I"⟩
abbrev cX9_signOf : ByteArray := prog_11_method_15_code
def yX9_signOf : MethodName := ⟨RX9, "signOf", "(III)I"⟩
abbrev cX9_isMark : ByteArray := prog_11_method_16_code
def yX9_isMark : MethodName := ⟨RX9, "isMark", "(III)Z"⟩
abbrev cX9_layMarks : ByteArray := prog_11_method_17_code
def yX9_layMarks : MethodName := ⟨RX9, "layMarks", "(I)V"⟩
abbrev cX9_putMark : ByteArray := prog_11_method_18_code
def yX9_putMark : MethodName := ⟨RX9, "putMark", "(II)V"⟩
abbrev cX9_bits : ByteArray := prog_11_method_19_code
def yX9_bits : MethodName := ⟨RX9, "bits", "(I)I"⟩
abbrev cX9_distance : ByteArray := prog_11_method_20_code
def yX9_distance : MethodName := ⟨RX9, "distance", "(IIII)I"⟩
abbrev cX9_nearest : ByteArray := prog_11_method_21_code
def yX9_nearest : MethodName := ⟨RX9, "nearest", "(III)I"⟩
abbrev cX9_markX : ByteArray := prog_11_method_22_code
def yX9_markX : MethodName := ⟨RX9, "markX", "(II)I"⟩
abbrev cX9_markY : ByteArray := prog_11_method_23_code
def yX9_markY : MethodName := ⟨RX9, "markY", "(II)I"⟩
abbrev cX9_layPair : ByteArray := prog_11_method_24_code
def yX9_layPair : MethodName := ⟨RX9, "layPair", "(II)V"⟩
abbrev cX9_votesFor : ByteArray := prog_11_method_25_code
def yX9_votesFor : MethodName := ⟨RX9, "votesFor", "(IIII)I"⟩
abbrev cX9_layPlaces : ByteArray := prog_11_method_26_code
def yX9_layPlaces : MethodName := ⟨RX9, "layPlaces", "()V"⟩
abbrev cX9_lay : ByteArray := prog_11_method_27_code
def yX9_lay : MethodName := ⟨RX9, "lay", "()V"⟩
abbrev cX9_score : ByteArray := prog_11_method_28_code
def yX9_score : MethodName := ⟨RX9, "score", "(III)I"⟩
abbrev cX9_marks : ByteArray := prog_11_method_29_code
def yX9_marks : MethodName := ⟨RX9, "marks", "(I)I"⟩
abbrev cX9_hasMark : ByteArray := prog_11_method_30_code
def yX9_hasMark : MethodName := ⟨RX9, "hasMark", "(II)Z"⟩
abbrev cX9_mark : ByteArray := prog_11_method_31_code
def yX9_mark : MethodName := ⟨RX9, "mark", "(III)I"⟩
abbrev cX9_match : ByteArray := prog_11_method_32_code
def yX9_match : MethodName := ⟨RX9, "match", "(III)I"⟩
abbrev cX9_arePair : ByteArray := prog_11_method_33_code
def yX9_arePair : MethodName := ⟨RX9, "arePair", "(II)Z"⟩
abbrev cX9_shift : ByteArray := prog_11_method_34_code
def yX9_shift : MethodName := ⟨RX9, "shift", "(III)I"⟩
abbrev cX9_place : ByteArray := prog_11_method_35_code
def yX9_place : MethodName := ⟨RX9, "place", "(II)I"⟩
abbrev cX9_open : ByteArray := prog_11_method_36_code
def yX9_open : MethodName := ⟨RX9, "open", "()I"⟩
abbrev cX9_joined : ByteArray := prog_11_method_37_code
def yX9_joined : MethodName := ⟨RX9, "joined", "()I"⟩
abbrev cX9_layOverlap : ByteArray := prog_11_method_38_code
def yX9_layOverlap : MethodName := ⟨RX9, "layOverlap", "(II)V"⟩
abbrev cX9_barsOverlap : ByteArray := prog_11_method_39_code
def yX9_barsOverlap : MethodName := ⟨RX9, "barsOverlap", "(IIZ)I"⟩
abbrev cX9_overlap : ByteArray := prog_11_method_40_code
def yX9_overlap : MethodName := ⟨RX9, "overlap", "(III)I"⟩
abbrev cX9_dotOver : ByteArray := prog_11_method_41_code
def yX9_dotOver : MethodName := ⟨RX9, "dotOver", "(III)I"⟩
abbrev cX9_lights : ByteArray := prog_11_method_42_code
def yX9_lights : MethodName := ⟨RX9, "lights", "(III)I"⟩
abbrev cX9_leastAt : ByteArray := prog_11_method_43_code
def yX9_leastAt : MethodName := ⟨RX9, "leastAt", "(II)I"⟩
abbrev cX9_below : ByteArray := prog_11_method_44_code
def yX9_below : MethodName := ⟨RX9, "below", "(II)I"⟩
abbrev cX9_seam : ByteArray := prog_11_method_45_code
def yX9_seam : MethodName := ⟨RX9, "seam", "(III)I"⟩
abbrev cX9_pictureAt : ByteArray := prog_11_method_46_code
def yX9_pictureAt : MethodName := ⟨RX9, "pictureAt", "(II)I"⟩
abbrev cX9_whole : ByteArray := prog_11_method_47_code
def yX9_whole : MethodName := ⟨RX9, "whole", "(III)I"⟩
abbrev cX9_edge : ByteArray := prog_11_method_48_code
def yX9_edge : MethodName := ⟨RX9, "edge", "(I)I"⟩
abbrev cX9_extent : ByteArray := prog_11_method_49_code
def yX9_extent : MethodName := ⟨RX9, "extent", "(I)I"⟩
abbrev cX9_told : ByteArray := prog_11_method_50_code
def yX9_told : MethodName := ⟨RX9, "told", "(I)I"⟩
def RJ6 : String := "java/lang/Integer"
def TJ6 : u_T := fun k => match k with
  | _ => ("", "", "", false)
def tyJ6 : Nat → FieldType := fun k => match k with
  | _ => .int
abbrev wsJ60 : List Cond := u_ws RJ6 TJ6 0
theorem nmJ6 : ∀ a, a < 0 → ∀ b, b < 0 → a ≠ b → (TJ6 a).2.1 ≠ (TJ6 b).2.1 := by decide +kernel
theorem tyJ6_ok : ∀ k, k < 0 → parseFieldDescriptor (TJ6 k).2.2.1 = some (tyJ6 k) := by decide +kernel
abbrev cJ6_bitCount_0f7a4 : ByteArray := prog_12_method_49_code
def yJ6_bitCount_0f7a4 : MethodName := ⟨RJ6, "bitCount", "(I)I"⟩
def RJ9 : String := "java/lang/Math"
def TJ9 : u_T := fun k => match k with
  | _ => ("", "", "", false)
def tyJ9 : Nat → FieldType := fun k => match k with
  | _ => .int
abbrev wsJ90 : List Cond := u_ws RJ9 TJ9 0
theorem nmJ9 : ∀ a, a < 0 → ∀ b, b < 0 → a ≠ b → (TJ9 a).2.1 ≠ (TJ9 b).2.1 := by decide +kernel
theorem tyJ9_ok : ∀ k, k < 0 → parseFieldDescriptor (TJ9 k).2.2.1 = some (tyJ9 k) := by decide +kernel
abbrev cJ9_abs_0f7a4 : ByteArray := prog_13_method_59_code
def yJ9_abs_0f7a4 : MethodName := ⟨RJ9, "abs", "(I)I"⟩
abbrev cJ9_max_7cf53 : ByteArray := prog_13_method_65_code
def yJ9_max_7cf53 : MethodName := ⟨RJ9, "max", "(II)I"⟩
abbrev cJ9_min_7cf53 : ByteArray := prog_13_method_69_code
def yJ9_min_7cf53 : MethodName := ⟨RJ9, "min", "(II)I"⟩
def RL : String := "PictureJoinLaw"
abbrev cL_law : ByteArray := code
def yL_law : MethodName := ⟨RL, "law", "([I)Z"⟩
end
section
/-! One world of numbered cells; all ints of all its cells in one memory; the machine's walks over it. -/
abbrev Sv : Type := Int ⊕ Nat
def zI (z : Int) : Int32 := Int32.ofInt z
abbrev InR (z : Int) : Prop := -2147483648 ≤ z ∧ z ≤ 2147483647
theorem zI_add (a b : Int) : zI a + zI b = zI (a + b) := (Int32.ofInt_add a b).symm
theorem zI_sub (a b : Int) : zI a - zI b = zI (a - b) := (Int32.ofInt_sub a b).symm
theorem zI_mul (a b : Int) : zI a * zI b = zI (a * b) := (Int32.ofInt_mul a b).symm
theorem zI_neg (a : Int) : -zI a = zI (-a) := (Int32.ofInt_neg a).symm
theorem zI_toInt {a : Int} (h : InR a) : (zI a).toInt = a := Int32.toInt_ofInt_of_le h.1 (Int.lt_of_le_of_lt h.2 (by decide))
theorem zI_of (x : Int32) : zI x.toInt = x := Int32.ofInt_toInt x
theorem zI_in (x : Int32) : InR x.toInt := ⟨Int32.le_toInt x, Int.le_of_lt_add_one (Int32.toInt_lt x)⟩
theorem zI_lt {a b : Int} (ha : InR a) (hb : InR b) : zI a < zI b ↔ a < b := by
  rw [Int32.lt_iff_toInt_lt, zI_toInt ha, zI_toInt hb]
theorem zI_le {a b : Int} (ha : InR a) (hb : InR b) : zI a ≤ zI b ↔ a ≤ b := by
  rw [Int32.le_iff_toInt_le, zI_toInt ha, zI_toInt hb]
theorem zI_eq {a b : Int} (ha : InR a) (hb : InR b) : zI a = zI b ↔ a = b := by
  rw [← Int32.toInt_inj, zI_toInt ha, zI_toInt hb]
theorem zI_clamp {a : Int} (ha : InR a) : (zI a).toNatClampNeg = a.toNat := by
  rw [← Int32.toNat_toInt, zI_toInt ha]
theorem zI_0 : zI 0 = 0 := by decide +kernel
theorem zI_tdiv {a b : Int} (ha : InR a) (hb : InR b) : zI a / zI b = zI (a.tdiv b) := (Int32.ofInt_tdiv ha.1 ha.2 hb.1 hb.2).symm
theorem zI_ne0 {b : Int} (h : InR b) (hb : b ≠ 0) : ¬ zI b = 0 := by
  rw [← zI_0, zI_eq h ⟨by decide, by decide⟩]; exact hb
theorem zI_rem {a b : Int} (ha : InR a) (hb : InR b) : zI a - zI a / zI b * zI b = zI (a.tmod b) := by
  rw [zI_tdiv ha hb, zI_mul, zI_sub]
  congr 1
  have := Int.tmod_add_tdiv_mul a b
  omega
theorem zI_vpin {a : Int} {n : Nat} (h0 : 0 ≤ a) (h1 : a < n) (hn : n < 2147483648) : vp_in (zI a) n := by
  have hr : InR a := ⟨by omega, by omega⟩
  rw [vp_in_iff, zI_toInt hr]
  exact ⟨h0, h1⟩
def vv (v : Sv) : Value := match v with
  | .inl z => .int (zI z)
  | .inr a => .ref a
theorem vv_cat (v : Sv) : (vv v).category = 1 := by cases v <;> rfl
/-- the locals: by their places; none: nothing is known of that one -/
def vLi : Nat → List (Option Sv) → List (Nat × Value)
  | _, [] => []
  | i, none :: l => vLi (i + 1) l
  | i, some v :: l => (i, vv v) :: vLi (i + 1) l
theorem vLi_mem : ∀ (L : List (Option Sv)) (i j : Nat) (w : Value), (j, w) ∈ vLi i L ↔ ∃ v, i ≤ j ∧ L[j - i]? = some (some v) ∧ w = vv v
  | [], i, j, w => by simp [vLi]
  | none :: l, i, j, w => by
    rw [show vLi i (none :: l) = vLi (i + 1) l from rfl, vLi_mem l (i + 1) j w]
    constructor
    · rintro ⟨v, h1, h2, h3⟩
      refine ⟨v, by omega, ?_, h3⟩
      rw [show j - i = (j - (i + 1)) + 1 by omega, List.getElem?_cons_succ]; exact h2
    · rintro ⟨v, h1, h2, h3⟩
      have hj : i ≠ j := by
        rintro rfl
        rw [Nat.sub_self, List.getElem?_cons_zero] at h2
        cases h2
      refine ⟨v, by omega, ?_, h3⟩
      rw [show j - i = (j - (i + 1)) + 1 by omega, List.getElem?_cons_succ] at h2; exact h2
  | some u :: l, i, j, w => by
    rw [show vLi i (some u :: l) = (i, vv u) :: vLi (i + 1) l from rfl, List.mem_cons, vLi_mem l (i + 1) j w]
    constructor
    · rintro (h | ⟨v, h1, h2, h3⟩)
      · cases h
        exact ⟨u, Nat.le_refl _, by rw [Nat.sub_self]; rfl, rfl⟩
      · refine ⟨v, by omega, ?_, h3⟩
        rw [show j - i = (j - (i + 1)) + 1 by omega, List.getElem?_cons_succ]; exact h2
    · rintro ⟨v, h1, h2, h3⟩
      by_cases hj : i = j
      · subst hj
        rw [Nat.sub_self, List.getElem?_cons_zero] at h2
        cases h2
        exact Or.inl (by rw [h3])
      · refine Or.inr ⟨v, by omega, ?_, h3⟩
        rw [show j - i = (j - (i + 1)) + 1 by omega, List.getElem?_cons_succ] at h2; exact h2
theorem vLi_at {ls : Array Slot} {nL : Nat} {L : List (Option Sv)} (h : lv_has ls nL (vLi 0 L)) {i : Nat} {v : Sv} (hi : L[i]? = some (some v)) : ls[i]? = some (.val (vv v)) :=
  h.2.2 (i, vv v) ((vLi_mem L 0 i (vv v)).mpr ⟨v, Nat.zero_le _, hi, rfl⟩)
theorem vLi_set {ls : Array Slot} {nL : Nat} {L L' : List (Option Sv)} {i : Nat} {v : Sv} (hL : L.set i (some v) = L') (h : lv_has ls nL ((i, vv v) :: (vLi 0 L).filter (fun q => !(q.1 == i) && !(q.1 + 1 == i && q.2.category == 2)))) : lv_has ls nL (vLi 0 L') := by
  subst hL
  refine ⟨h.1, h.2.1, fun q hq => ?_⟩
  obtain ⟨j, w⟩ := q
  obtain ⟨u, -, h2, rfl⟩ := (vLi_mem _ 0 j w).mp hq
  refine h.2.2 (j, vv u) ?_
  rw [Nat.sub_zero] at h2
  by_cases hj : i = j
  · subst hj
    have hl : i < L.length := by
      have := (List.getElem?_eq_some_iff.mp h2).1
      rwa [List.length_set] at this
    rw [List.getElem?_set_self hl] at h2
    cases h2
    exact List.mem_cons_self
  · rw [List.getElem?_set_ne hj] at h2
    refine List.mem_cons_of_mem _ (List.mem_filter.mpr ⟨(vLi_mem L 0 j _).mpr ⟨u, Nat.zero_le _, h2, rfl⟩, ?_⟩)
    simp [vv_cat, Ne.symm hj]
theorem vLi_entry : ∀ (as : List Sv) (i k : Nat), lv_args i (as.map vv) = vLi i (as.map some ++ List.replicate k none)
  | [], i, k => by
    induction k generalizing i with
    | zero => rfl
    | succ k ih => exact ih (i + 1)
  | v :: as, i, k => by
    show (i, vv v) :: lv_args (if (vv v).category = 2 then i + 2 else i + 1) (as.map vv) = (i, vv v) :: vLi (i + 1) (as.map some ++ List.replicate k none)
    rw [vv_cat, if_neg (by decide), vLi_entry as (i + 1) k]
theorem lg_sl_vv : ∀ as : List Sv, (lg_sl (as.map vv)).length = as.length
  | [] => rfl
  | v :: as => by
    have h := lg_sl_vv as
    unfold lg_sl at h ⊢
    rw [List.map_cons, List.flatMap_cons, List.length_append, h, if_neg (by rw [vv_cat]; decide), List.length_cons, List.length_cons, List.length_nil]
    omega
/-! the world -/
abbrev GT : Type := va_G × ClassId × ClassId × ClassId × (Nat → Nat) × Nat × Nat × Nat
abbrev Mem : Type := Nat → Nat → Int
def jD (G : GT) : va_G := G.1
def jI (G : GT) : ClassId := G.2.1
def jP (G : GT) : ClassId := G.2.2.1
def jQ (G : GT) : ClassId := G.2.2.2.1
def ad (G : GT) : Nat → Nat := G.2.2.2.2.1
def jz (G : GT) : Nat := G.2.2.2.2.2.1
def jwx (G : GT) : Nat := G.2.2.2.2.2.2.1
def jwy (G : GT) : Nat := G.2.2.2.2.2.2.2
abbrev jcls : List vw_C := [(RX0, TX0, 6), (RX1, TX1, 5), (RX2, TX2, 5), (RX3, TX3, 7), (RX4, TX4, 5), (RX5, TX5, 6), (RX6, TX6, 3), (RX7, TX7, 1), (RX8, TX8, 6), (RX9, TX9, 27)]
abbrev jtys (G : GT) : List (ClassId × FieldType) := [(jI G, .int), (jP G, .object RX5), (jQ G, .object RX4)]
def jA (G : GT) : Nat → Prop := fun q => jz G ≤ q
abbrev ji (f : Nat → Int) (t : Nat) : Value := .int (zI (f t))
abbrev jr (G : GT) (k : Nat) : Value := .ref (ad G k)
abbrev jia (G : GT) (n : Nat) (f : Nat → Int) : va_E := .inl (jI G, n, .inl (fun t => zI (f t)))
abbrev jqa (c : ClassId) (n : Nat) (f : Nat → Nat) : va_E := .inl (c, n, .inr (.inr (.inr (.inr (fun t => some (f t))))))
/-- what lies in the cell numbered k, with the ints f -/
def jcl (G : GT) (k : Nat) (f : Nat → Int) : va_E :=
  if k = 0 then .inr (8, [jr G 1, jr G 2, jr G 3, jr G 4, ji f 4, ji f 5])
  else if k = 1 then .inr (7, [ji f 0])
  else if k = 2 then .inr (0, [jr G 5, jr G 6, jr G 7, ji f 3, ji f 4, ji f 5])
  else if k = 3 then .inr (3, [ji f 0, ji f 1, ji f 2, ji f 3, ji f 4, ji f 5, ji f 6])
  else if k = 4 then .inr (6, [jr G 8, jr G 9, ji f 2])
  else if k = 5 then jqa (jP G) 4 (fun t => ad G (10 + t))
  else if k = 6 then jqa (jQ G) 16 (fun t => ad G (46 + t))
  else if k = 7 then jia G 4 f
  else if k = 8 then jia G 400 f
  else if k = 9 then jia G 20 f
  else if k < 14 then .inr (5, [jr G (k + 4), jr G (k + 16), ji f 2, ji f 3, ji f 4, ji f 5])
  else if k < 18 then .inr (1, [jr G (k + 4), jr G (k + 8), ji f 2, ji f 3, ji f 4])
  else if k < 26 then jia G 400 f
  else if k < 30 then .inr (2, [jr G (k + 4), jr G (k + 8), jr G (k + 12), jr G (k + 16), ji f 4])
  else if k < 46 then jia G 16 f
  else if k < 62 then .inr (4, [jr G (k + 16), ji f 1, ji f 2, ji f 3, ji f 4])
  else if k < 78 then jia G 16 f
  else if k = 78 then .inr (9, [ji f 0, ji f 1, jr G 79, jr G 80, jr G 81, ji f 5, ji f 6, ji f 7, jr G 82, jr G 83, jr G 84, jr G 85, jr G 86, jr G 87, jr G 88, jr G 89, jr G 90, ji f 17, jr G 91, jr G 92, jr G 93, jr G 94, ji f 22, ji f 23, ji f 24, ji f 25, jr G 95])
  else if k < 81 then jia G 4 f
  else if k < 83 then jia G 1600 f
  else if k = 83 then jia G 4 f
  else if k < 86 then jia G 64 f
  else if k = 86 then jia G 256 f
  else if k < 91 then jia G 16 f
  else if k < 95 then jia G 4 f
  else jia G 400 f
theorem jcl_PJ (G : GT) (f : Nat → Int) : jcl G 0 f = .inr (8, [jr G 1, jr G 2, jr G 3, jr G 4, ji f 4, ji f 5]) := rfl
theorem jcl_WO (G : GT) (f : Nat → Int) : jcl G 1 f = .inr (7, [ji f 0]) := rfl
theorem jcl_AL (G : GT) (f : Nat → Int) : jcl G 2 f = .inr (0, [jr G 5, jr G 6, jr G 7, ji f 3, ji f 4, ji f 5]) := rfl
theorem jcl_OV (G : GT) (f : Nat → Int) : jcl G 3 f = .inr (3, [ji f 0, ji f 1, ji f 2, ji f 3, ji f 4, ji f 5, ji f 6]) := rfl
theorem jcl_SE (G : GT) (f : Nat → Int) : jcl G 4 f = .inr (6, [jr G 8, jr G 9, ji f 2]) := rfl
theorem jcl_5 (G : GT) (f : Nat → Int) : jcl G 5 f = jqa (jP G) 4 (fun t => ad G (10 + t)) := rfl
theorem jcl_6 (G : GT) (f : Nat → Int) : jcl G 6 f = jqa (jQ G) 16 (fun t => ad G (46 + t)) := rfl
theorem jcl_7 (G : GT) (f : Nat → Int) : jcl G 7 f = jia G 4 f := rfl
theorem jcl_8 (G : GT) (f : Nat → Int) : jcl G 8 f = jia G 400 f := rfl
theorem jcl_9 (G : GT) (f : Nat → Int) : jcl G 9 f = jia G 20 f := rfl
theorem jlt4 {P : Nat → Prop} (h0 : P 0) (h1 : P 1) (h2 : P 2) (h3 : P 3) {p : Nat} (hp : p < 4) : P p := by
  rcases (show p = 0 ∨ p = 1 ∨ p = 2 ∨ p = 3 by omega) with rfl | rfl | rfl | rfl <;> assumption
theorem jcl_PI (G : GT) {p : Nat} (hp : p < 4) (f : Nat → Int) : jcl G (10 + p) f = .inr (5, [jr G (14 + p), jr G (26 + p), ji f 2, ji f 3, ji f 4, ji f 5]) := jlt4 (P := fun p => jcl G (10 + p) f = .inr (5, [jr G (14 + p), jr G (26 + p), ji f 2, ji f 3, ji f 4, ji f 5])) rfl rfl rfl rfl hp
theorem jcl_DO (G : GT) {p : Nat} (hp : p < 4) (f : Nat → Int) : jcl G (14 + p) f = .inr (1, [jr G (18 + p), jr G (22 + p), ji f 2, ji f 3, ji f 4]) := jlt4 (P := fun p => jcl G (14 + p) f = .inr (1, [jr G (18 + p), jr G (22 + p), ji f 2, ji f 3, ji f 4])) rfl rfl rfl rfl hp
theorem jcl_va (G : GT) {p : Nat} (hp : p < 4) (f : Nat → Int) : jcl G (18 + p) f = jia G 400 f := jlt4 (P := fun p => jcl G (18 + p) f = jia G 400 f) rfl rfl rfl rfl hp
theorem jcl_sc (G : GT) {p : Nat} (hp : p < 4) (f : Nat → Int) : jcl G (22 + p) f = jia G 400 f := jlt4 (P := fun p => jcl G (22 + p) f = jia G 400 f) rfl rfl rfl rfl hp
theorem jcl_MA (G : GT) {p : Nat} (hp : p < 4) (f : Nat → Int) : jcl G (26 + p) f = .inr (2, [jr G (30 + p), jr G (34 + p), jr G (38 + p), jr G (42 + p), ji f 4]) := jlt4 (P := fun p => jcl G (26 + p) f = .inr (2, [jr G (30 + p), jr G (34 + p), jr G (38 + p), jr G (42 + p), ji f 4])) rfl rfl rfl rfl hp
theorem jcl_co (G : GT) {p : Nat} (hp : p < 4) (f : Nat → Int) : jcl G (30 + p) f = jia G 16 f := jlt4 (P := fun p => jcl G (30 + p) f = jia G 16 f) rfl rfl rfl rfl hp
theorem jcl_ro (G : GT) {p : Nat} (hp : p < 4) (f : Nat → Int) : jcl G (34 + p) f = jia G 16 f := jlt4 (P := fun p => jcl G (34 + p) f = jia G 16 f) rfl rfl rfl rfl hp
theorem jcl_he (G : GT) {p : Nat} (hp : p < 4) (f : Nat → Int) : jcl G (38 + p) f = jia G 16 f := jlt4 (P := fun p => jcl G (38 + p) f = jia G 16 f) rfl rfl rfl rfl hp
theorem jcl_si (G : GT) {p : Nat} (hp : p < 4) (f : Nat → Int) : jcl G (42 + p) f = jia G 16 f := jlt4 (P := fun p => jcl G (42 + p) f = jia G 16 f) rfl rfl rfl rfl hp
theorem jlt16 {P : Nat → Prop} (h0 : P 0) (h1 : P 1) (h2 : P 2) (h3 : P 3) (h4 : P 4) (h5 : P 5) (h6 : P 6) (h7 : P 7) (h8 : P 8) (h9 : P 9) (h10 : P 10) (h11 : P 11) (h12 : P 12) (h13 : P 13) (h14 : P 14) (h15 : P 15) {p : Nat} (hp : p < 16) : P p := by
  rcases (show p = 0 ∨ p = 1 ∨ p = 2 ∨ p = 3 ∨ p = 4 ∨ p = 5 ∨ p = 6 ∨ p = 7 ∨ p = 8 ∨ p = 9 ∨ p = 10 ∨ p = 11 ∨ p = 12 ∨ p = 13 ∨ p = 14 ∨ p = 15 by omega) with rfl | rfl | rfl | rfl | rfl | rfl | rfl | rfl | rfl | rfl | rfl | rfl | rfl | rfl | rfl | rfl <;> assumption
theorem jcl_PA (G : GT) {q : Nat} (hq : q < 16) (f : Nat → Int) : jcl G (46 + q) f = .inr (4, [jr G (62 + q), ji f 1, ji f 2, ji f 3, ji f 4]) := jlt16 (P := fun q => jcl G (46 + q) f = .inr (4, [jr G (62 + q), ji f 1, ji f 2, ji f 3, ji f 4])) rfl rfl rfl rfl rfl rfl rfl rfl rfl rfl rfl rfl rfl rfl rfl rfl hq
theorem jcl_pa (G : GT) {q : Nat} (hq : q < 16) (f : Nat → Int) : jcl G (62 + q) f = jia G 16 f := jlt16 (P := fun q => jcl G (62 + q) f = jia G 16 f) rfl rfl rfl rfl rfl rfl rfl rfl rfl rfl rfl rfl rfl rfl rfl rfl hq
theorem jcl_MO (G : GT) (f : Nat → Int) : jcl G 78 f = .inr (9, [ji f 0, ji f 1, jr G 79, jr G 80, jr G 81, ji f 5, ji f 6, ji f 7, jr G 82, jr G 83, jr G 84, jr G 85, jr G 86, jr G 87, jr G 88, jr G 89, jr G 90, ji f 17, jr G 91, jr G 92, jr G 93, jr G 94, ji f 22, ji f 23, ji f 24, ji f 25, jr G 95]) := rfl
theorem jcl_79 (G : GT) (f : Nat → Int) : jcl G 79 f = jia G 4 f := rfl
theorem jcl_80 (G : GT) (f : Nat → Int) : jcl G 80 f = jia G 4 f := rfl
theorem jcl_81 (G : GT) (f : Nat → Int) : jcl G 81 f = jia G 1600 f := rfl
theorem jcl_82 (G : GT) (f : Nat → Int) : jcl G 82 f = jia G 1600 f := rfl
theorem jcl_83 (G : GT) (f : Nat → Int) : jcl G 83 f = jia G 4 f := rfl
theorem jcl_84 (G : GT) (f : Nat → Int) : jcl G 84 f = jia G 64 f := rfl
theorem jcl_85 (G : GT) (f : Nat → Int) : jcl G 85 f = jia G 64 f := rfl
theorem jcl_86 (G : GT) (f : Nat → Int) : jcl G 86 f = jia G 256 f := rfl
theorem jcl_87 (G : GT) (f : Nat → Int) : jcl G 87 f = jia G 16 f := rfl
theorem jcl_88 (G : GT) (f : Nat → Int) : jcl G 88 f = jia G 16 f := rfl
theorem jcl_89 (G : GT) (f : Nat → Int) : jcl G 89 f = jia G 16 f := rfl
theorem jcl_90 (G : GT) (f : Nat → Int) : jcl G 90 f = jia G 16 f := rfl
theorem jcl_91 (G : GT) (f : Nat → Int) : jcl G 91 f = jia G 4 f := rfl
theorem jcl_92 (G : GT) (f : Nat → Int) : jcl G 92 f = jia G 4 f := rfl
theorem jcl_93 (G : GT) (f : Nat → Int) : jcl G 93 f = jia G 4 f := rfl
theorem jcl_94 (G : GT) (f : Nat → Int) : jcl G 94 f = jia G 4 f := rfl
theorem jcl_95 (G : GT) (f : Nat → Int) : jcl G 95 f = jia G 400 f := rfl
/-- the heap holds the world -/
def jhw (G : GT) (μ : Mem) (H : Heap) : Prop := ∀ k : Nat, k < 96 → va_at (jD G) jcls (ad G k, jcl G k (μ k)) H
/-- one int written -/
def jms (μ : Mem) (k j : Nat) (z : Int) : Mem := fun k' j' => if k' = k ∧ j' = j then z else μ k' j'
theorem jms_same (μ : Mem) (k j : Nat) (z : Int) : jms μ k j z k j = z := by simp [jms]
theorem jms_cell (μ : Mem) (k j : Nat) (z : Int) {k' : Nat} (h : k' ≠ k) : jms μ k j z k' = μ k' := by funext j'; simp [jms, h]
theorem jms_slot (μ : Mem) (k j : Nat) (z : Int) {k' j' : Nat} (h : j' ≠ j) : jms μ k j z k' j' = μ k' j' := by simp [jms, h]
theorem jms_at (μ : Mem) (k j : Nat) (z : Int) : jms μ k j z k = fun t => if t = j then z else μ k t := by funext t; simp [jms]
def jadOK (G : GT) : Prop := (∀ i j : Nat, i < 96 → j < 96 → ad G i = ad G j → i = j) ∧ ∀ i : Nat, i < 96 → jz G ≤ ad G i
theorem jhw_put {G : GT} {μ : Mem} {H H1 : Heap} {k j : Nat} {z : Int} (hw : jhw G μ H) (hA : jadOK G) (hk : k < 96) (he : va_at (jD G) jcls (ad G k, jcl G k (fun t => if t = j then z else μ k t)) H1) (oq : ∀ q : Nat, q ≠ ad G k → H1[q]? = H[q]?) : jhw G (jms μ k j z) H1 := by
  intro i hi
  by_cases h : i = k
  · subst h
    rw [jms_at]
    exact he
  · rw [jms_cell _ _ _ _ h]
    exact (hw i hi).kept (oq _ (fun e => h (hA.1 i k hi hk e)))
/-! the words, and what every frame of ours is given -/
def jws : List Cond := lw_tbl.filter goodWord
theorem jm {w : Cond} (h : w ∈ lw_tbl) (hg : goodWord w = true) : w ∈ jws := List.mem_filter.mpr ⟨h, hg⟩
theorem jgood (y : MethodName) (cc : ByteArray) (n : Nat) (r : Option FieldType) (h : Cond.code y cc n r ∈ jws) : GoodIn jws (Cond.code y cc n r :: jws) := by
  intro w hw
  rcases List.mem_cons.mp hw with rfl | hw
  · exact ⟨h, good_of_word (List.mem_filter.mp h).2⟩
  · exact ⟨hw, good_of_word (List.mem_filter.mp hw).2⟩
def jwin : MethodName := ⟨"PictureJoin", "within", "(III)Z"⟩
def jwxv : Nat → Value := fun j => .int (zI (if j = 1 then 0 else 1))
def jwyv : Nat → Value := fun j => .int (zI (if j = 0 then 0 else if j = 3 then -1 else 1))
def jZs (G : GT) (U : State) (H : Heap) : Prop := va_Z RX1 "WAYS_X" "[I" (.ref (jwx G)) (jA G) U H ∧ va_Z RX1 "WAYS_Y" "[I" (.ref (jwy G)) (jA G) U H ∧ va_T .int (jwx G) 4 jwxv (jA G) U H ∧ va_T .int (jwy G) 4 jwyv (jA G) U H ∧ va_Nw (.methodLinkNest "PictureJoin$Dots" 39 jwin "PictureJoin") U
def jWd (G : GT) (μ : Mem) (U : State) : Prop := jhw G μ U.heap ∧ va_K (jD G) jcls (jtys G) U ∧ jZs G U U.heap ∧ jz G ≤ U.heap.size
theorem jZs.moved {G : GT} {u U : State} {H : Heap} (hW : u.WarmedH U.vm) (h : jZs G u H) : jZs G U H := ⟨va_Z.moved hW.alike h.1, va_Z.moved hW.alike h.2.1, va_T.moved hW.alike h.2.2.1, va_T.moved hW.alike h.2.2.2.1, va_Nw.warmM hW h.2.2.2.2⟩
theorem jZs.kept {G : GT} {U : State} {H H1 : Heap} (h : jZs G U H) (hq : ∀ a : Nat, a < H.size → ¬ jA G a → H1[a]? = H[a]?) : jZs G U H1 := ⟨va_Z.kept h.1 hq, va_Z.kept h.2.1 hq, va_T.kept h.2.2.1 hq, va_T.kept h.2.2.2.1 hq, h.2.2.2.2⟩
abbrev FrT : Type := Program × Launch × Env × Room × State × MethodId × Array Value × List Frame × Method × Code
def Cx (F : FrT) (G : GT) (own : String) (cc : ByteArray) (nL : Nat) (ret : Option FieldType) : Prop := match F with
  | (p, _, _, _, s, m, args, _, meth, c) => p.tables.exec = Jvm.exec ∧ c.code = cc ∧ c.maxLocals = nL ∧ s.vm.findClass own = some m.cls ∧ (∀ w ∈ jws, w.before args s = true) ∧ meth.sig.returnType = ret ∧ meth.locks = false ∧ va_K (jD G) jcls (jtys G) s ∧ jZs G s s.heap ∧ jz G ≤ s.heap.size ∧ jadOK G
def jX (F : FrT) (G : GT) (nL k n : Nat) (Q : State → Prop) (pc : Nat) (L : List (Option Sv)) (st : List Sv) (μ : Mem) : Prop := match F with
  | (p, l, e, R, s, m, args, below, meth, c) => ∀ (H : Heap) (locs : List Loc) (ls : Array Slot), jhw G μ H → va_S (jA G) s.heap H locs → lv_has ls nL (vLi 0 L) → W p l e R s m args below meth c H locs k n Q (F0 m pc ls (st.map vv))
def Dn (cc : ByteArray) (pc : Nat) (i : Instr) (n pc2 : Nat) : Prop := decode cc pc = .ok (i, n) ∧ pc2 = pc + n
def Dj (cc : ByteArray) (pc : Nat) (i : Int → Instr) (off : Int) (n pc2 tgt : Nat) : Prop := decode cc pc = .ok (i off, n) ∧ pc2 = pc + n ∧ (pc : Int) + off = (tgt : Int)
section JX
variable {F : FrT} {G : GT} {own : String} {cc : ByteArray} {nL k n : Nat} {ret : Option FieldType} {Q : State → Prop} {pc pc2 tgt : Nat} {L L' : List (Option Sv)} {st : List Sv} {μ : Mem} {off : Int}
theorem jx_iload_n (C : Cx F G own cc nL ret) {q : Fin 4} (hd : Dn cc pc (.iload_n q) 1 pc2) {z : Int} (hl : L[(q : Nat)]? = some (some (.inl z))) (kk : jX F G nL k n Q pc2 L (.inl z :: st) μ) : jX F G nL k n Q pc L st μ := by
  obtain ⟨p, l, e, R, s, m, args, below, meth, c⟩ := F
  obtain ⟨hx, hb, -⟩ := C
  obtain ⟨hd, rfl⟩ := hd
  intro H locs ls hw hS h
  exact lv_iload_n hx hb hd rfl (vLi_at h hl) (kk H locs ls hw hS h)
theorem jx_iload (C : Cx F G own cc nL ret) {q : Nat} (hd : Dn cc pc (.iload q) 2 pc2) {z : Int} (hl : L[q]? = some (some (.inl z))) (kk : jX F G nL k n Q pc2 L (.inl z :: st) μ) : jX F G nL k n Q pc L st μ := by
  obtain ⟨p, l, e, R, s, m, args, below, meth, c⟩ := F
  obtain ⟨hx, hb, -⟩ := C
  obtain ⟨hd, rfl⟩ := hd
  intro H locs ls hw hS h
  exact lv_iload hx hb hd (vLi_at h hl) (kk H locs ls hw hS h)
theorem jx_aload_n (C : Cx F G own cc nL ret) {q : Fin 4} (hd : Dn cc pc (.aload_n q) 1 pc2) {a : Nat} (hl : L[(q : Nat)]? = some (some (.inr a))) (kk : jX F G nL k n Q pc2 L (.inr a :: st) μ) : jX F G nL k n Q pc L st μ := by
  obtain ⟨p, l, e, R, s, m, args, below, meth, c⟩ := F
  obtain ⟨hx, hb, -⟩ := C
  obtain ⟨hd, rfl⟩ := hd
  intro H locs ls hw hS h
  exact lv_aload_n hx hb hd rfl (vLi_at h hl) (kk H locs ls hw hS h)
theorem jx_aload (C : Cx F G own cc nL ret) {q : Nat} (hd : Dn cc pc (.aload q) 2 pc2) {a : Nat} (hl : L[q]? = some (some (.inr a))) (kk : jX F G nL k n Q pc2 L (.inr a :: st) μ) : jX F G nL k n Q pc L st μ := by
  obtain ⟨p, l, e, R, s, m, args, below, meth, c⟩ := F
  obtain ⟨hx, hb, -⟩ := C
  obtain ⟨hd, rfl⟩ := hd
  intro H locs ls hw hS h
  exact lv_aload hx hb hd (vLi_at h hl) (kk H locs ls hw hS h)
theorem jx_istore_n (C : Cx F G own cc nL ret) {q : Fin 4} (hd : Dn cc pc (.istore_n q) 1 pc2) {z : Int} (hi : (q : Nat) < nL) (hL : L.set (q : Nat) (some (.inl z)) = L') (kk : jX F G nL k n Q pc2 L' st μ) : jX F G nL k n Q pc L (.inl z :: st) μ := by
  obtain ⟨p, l, e, R, s, m, args, below, meth, c⟩ := F
  obtain ⟨hx, hb, -⟩ := C
  obtain ⟨hd, rfl⟩ := hd
  intro H locs ls hw hS h
  exact lv_istore_n hx hb hd rfl h hi rfl (fun ls' h' => kk H locs ls' hw hS (vLi_set (v := .inl z) hL h'))
theorem jx_istore (C : Cx F G own cc nL ret) {q : Nat} (hd : Dn cc pc (.istore q) 2 pc2) {z : Int} (hi : q < nL) (hL : L.set q (some (.inl z)) = L') (kk : jX F G nL k n Q pc2 L' st μ) : jX F G nL k n Q pc L (.inl z :: st) μ := by
  obtain ⟨p, l, e, R, s, m, args, below, meth, c⟩ := F
  obtain ⟨hx, hb, -⟩ := C
  obtain ⟨hd, rfl⟩ := hd
  intro H locs ls hw hS h
  exact lv_istore hx hb hd h hi rfl (fun ls' h' => kk H locs ls' hw hS (vLi_set (v := .inl z) hL h'))
theorem jx_astore_n (C : Cx F G own cc nL ret) {q : Fin 4} (hd : Dn cc pc (.astore_n q) 1 pc2) {a : Nat} (hi : (q : Nat) < nL) (hL : L.set (q : Nat) (some (.inr a)) = L') (kk : jX F G nL k n Q pc2 L' st μ) : jX F G nL k n Q pc L (.inr a :: st) μ := by
  obtain ⟨p, l, e, R, s, m, args, below, meth, c⟩ := F
  obtain ⟨hx, hb, -⟩ := C
  obtain ⟨hd, rfl⟩ := hd
  intro H locs ls hw hS h
  exact lv_astore_n hx hb hd rfl h hi rfl (fun ls' h' => kk H locs ls' hw hS (vLi_set (v := .inr a) hL h'))
theorem jx_astore (C : Cx F G own cc nL ret) {q : Nat} (hd : Dn cc pc (.astore q) 2 pc2) {a : Nat} (hi : q < nL) (hL : L.set q (some (.inr a)) = L') (kk : jX F G nL k n Q pc2 L' st μ) : jX F G nL k n Q pc L (.inr a :: st) μ := by
  obtain ⟨p, l, e, R, s, m, args, below, meth, c⟩ := F
  obtain ⟨hx, hb, -⟩ := C
  obtain ⟨hd, rfl⟩ := hd
  intro H locs ls hw hS h
  exact lv_astore hx hb hd h hi rfl (fun ls' h' => kk H locs ls' hw hS (vLi_set (v := .inr a) hL h'))
theorem jx_iinc (C : Cx F G own cc nL ret) {q : Nat} {d : Int} (hd : Dn cc pc (.iinc q d) 3 pc2) {z : Int} (hl : L[q]? = some (some (.inl z))) (hi : q < nL) (hL : L.set q (some (.inl (z + d))) = L') (kk : jX F G nL k n Q pc2 L' st μ) : jX F G nL k n Q pc L st μ := by
  obtain ⟨p, l, e, R, s, m, args, below, meth, c⟩ := F
  obtain ⟨hx, hb, -⟩ := C
  obtain ⟨hd, rfl⟩ := hd
  intro H locs ls hw hS h
  obtain ⟨j, hj⟩ := List.getElem?_of_mem ((vLi_mem L 0 q (vv (.inl z))).mpr ⟨.inl z, Nat.zero_le _, hl, rfl⟩)
  exact lv_iinc (x := zI z) (v := zI (z + d)) hx hb hd h hj (zI_add z d) hi rfl (fun ls' h' => kk H locs ls' hw hS (vLi_set (v := .inl (z + d)) hL h'))
theorem jx_iconst (C : Cx F G own cc nL ret) {z : Int} (hd : Dn cc pc (.iconst z) 1 pc2) (kk : jX F G nL k n Q pc2 L (.inl z :: st) μ) : jX F G nL k n Q pc L st μ := by
  obtain ⟨p, l, e, R, s, m, args, below, meth, c⟩ := F
  obtain ⟨hx, hb, -⟩ := C
  obtain ⟨hd, rfl⟩ := hd
  intro H locs ls hw hS h
  exact lv_iconst hx hb hd rfl (kk H locs ls hw hS h)
theorem jx_bipush (C : Cx F G own cc nL ret) {z : Int} (hd : Dn cc pc (.bipush z) 2 pc2) (hz : (Int8.ofInt z).toInt32 = zI z) (kk : jX F G nL k n Q pc2 L (.inl z :: st) μ) : jX F G nL k n Q pc L st μ := by
  obtain ⟨p, l, e, R, s, m, args, below, meth, c⟩ := F
  obtain ⟨hx, hb, -⟩ := C
  obtain ⟨hd, rfl⟩ := hd
  intro H locs ls hw hS h
  exact lv_bipush hx hb hd hz (kk H locs ls hw hS h)
theorem jx_sipush (C : Cx F G own cc nL ret) {z : Int} (hd : Dn cc pc (.sipush z) 3 pc2) (hz : (Int16.ofInt z).toInt32 = zI z) (kk : jX F G nL k n Q pc2 L (.inl z :: st) μ) : jX F G nL k n Q pc L st μ := by
  obtain ⟨p, l, e, R, s, m, args, below, meth, c⟩ := F
  obtain ⟨hx, hb, -⟩ := C
  obtain ⟨hd, rfl⟩ := hd
  intro H locs ls hw hS h
  exact lv_sipush hx hb hd hz (kk H locs ls hw hS h)
theorem jx_ldc (C : Cx F G own cc nL ret) {i : Nat} {z : Int} {v : Int32} (hd : Dn cc pc (.ldc i) 2 pc2) (hm : Cond.constant own i v ∈ jws) (hz : v = zI z) (kk : jX F G nL k n Q pc2 L (.inl z :: st) μ) : jX F G nL k n Q pc L st μ := by
  obtain ⟨p, l, e, R, s, m, args, below, meth, c⟩ := F
  obtain ⟨hx, hb, -, hown, hts, -⟩ := C
  obtain ⟨hd, rfl⟩ := hd
  subst hz
  intro H locs ls hw hS h
  exact lv_ldc hx hb hown (hts _ hm) hd (kk H locs ls hw hS h)
theorem jx_ldcw (C : Cx F G own cc nL ret) {i : Nat} {z : Int} {v : Int32} (hd : Dn cc pc (.ldc_w i) 3 pc2) (hm : Cond.constant own i v ∈ jws) (hz : v = zI z) (kk : jX F G nL k n Q pc2 L (.inl z :: st) μ) : jX F G nL k n Q pc L st μ := by
  obtain ⟨p, l, e, R, s, m, args, below, meth, c⟩ := F
  obtain ⟨hx, hb, -, hown, hts, -⟩ := C
  obtain ⟨hd, rfl⟩ := hd
  subst hz
  intro H locs ls hw hS h
  exact lv_ldcw hx hb hown (hts _ hm) hd (kk H locs ls hw hS h)
theorem jx_iadd (C : Cx F G own cc nL ret) {a b : Int} (hd : Dn cc pc .iadd 1 pc2) (kk : jX F G nL k n Q pc2 L (.inl (a + b) :: st) μ) : jX F G nL k n Q pc L (.inl b :: .inl a :: st) μ := by
  obtain ⟨p, l, e, R, s, m, args, below, meth, c⟩ := F
  obtain ⟨hx, hb, -⟩ := C
  obtain ⟨hd, rfl⟩ := hd
  intro H locs ls hw hS h
  exact lv_iadd hx hb hd (by rw [zI_add]; exact kk H locs ls hw hS h)
theorem jx_isub (C : Cx F G own cc nL ret) {a b : Int} (hd : Dn cc pc .isub 1 pc2) (kk : jX F G nL k n Q pc2 L (.inl (a - b) :: st) μ) : jX F G nL k n Q pc L (.inl b :: .inl a :: st) μ := by
  obtain ⟨p, l, e, R, s, m, args, below, meth, c⟩ := F
  obtain ⟨hx, hb, -⟩ := C
  obtain ⟨hd, rfl⟩ := hd
  intro H locs ls hw hS h
  exact lv_isub hx hb hd (by rw [zI_sub]; exact kk H locs ls hw hS h)
theorem jx_imul (C : Cx F G own cc nL ret) {a b : Int} (hd : Dn cc pc .imul 1 pc2) (kk : jX F G nL k n Q pc2 L (.inl (a * b) :: st) μ) : jX F G nL k n Q pc L (.inl b :: .inl a :: st) μ := by
  obtain ⟨p, l, e, R, s, m, args, below, meth, c⟩ := F
  obtain ⟨hx, hb, -⟩ := C
  obtain ⟨hd, rfl⟩ := hd
  intro H locs ls hw hS h
  exact lv_imul hx hb hd (by rw [zI_mul]; exact kk H locs ls hw hS h)
theorem jx_ineg (C : Cx F G own cc nL ret) {a : Int} (hd : Dn cc pc .ineg 1 pc2) (kk : jX F G nL k n Q pc2 L (.inl (-a) :: st) μ) : jX F G nL k n Q pc L (.inl a :: st) μ := by
  obtain ⟨p, l, e, R, s, m, args, below, meth, c⟩ := F
  obtain ⟨hx, hb, -⟩ := C
  obtain ⟨hd, rfl⟩ := hd
  intro H locs ls hw hS h
  exact lv_ineg hx hb hd (by rw [zI_neg]; exact kk H locs ls hw hS h)
theorem jx_idiv (C : Cx F G own cc nL ret) {a b z : Int} (hd : Dn cc pc .idiv 1 pc2) (ha : InR a) (hb0 : 0 < b) (hbr : InR b) (hz : a.tdiv b = z) (kk : jX F G nL k n Q pc2 L (.inl z :: st) μ) : jX F G nL k n Q pc L (.inl b :: .inl a :: st) μ := by
  obtain ⟨p, l, e, R, s, m, args, below, meth, c⟩ := F
  obtain ⟨hx, hb, -⟩ := C
  obtain ⟨hd, rfl⟩ := hd
  subst hz
  intro H locs ls hw hS h
  exact lv_idiv hx hb hd (zI_ne0 hbr (by omega)) (by rw [zI_tdiv ha hbr]; exact kk H locs ls hw hS h)
theorem jx_irem (C : Cx F G own cc nL ret) {a b z : Int} (hd : Dn cc pc .irem 1 pc2) (ha : InR a) (hb0 : 0 < b) (hbr : InR b) (hz : a.tmod b = z) (kk : jX F G nL k n Q pc2 L (.inl z :: st) μ) : jX F G nL k n Q pc L (.inl b :: .inl a :: st) μ := by
  obtain ⟨p, l, e, R, s, m, args, below, meth, c⟩ := F
  obtain ⟨hx, hb, -⟩ := C
  obtain ⟨hd, rfl⟩ := hd
  subst hz
  intro H locs ls hw hS h
  exact lv_irem hx hb hd (zI_ne0 hbr (by omega)) (by rw [zI_rem ha hbr]; exact kk H locs ls hw hS h)
def zxor (a b : Int) : Int := (zI a ^^^ zI b).toInt
def zor (a b : Int) : Int := (zI a ||| zI b).toInt
def zand (a b : Int) : Int := (zI a &&& zI b).toInt
def zshl (a b : Int) : Int := (zI a <<< (zI b &&& 31)).toInt
def zshr (a b : Int) : Int := (zI a >>> (zI b &&& 31)).toInt
def zushr (a b : Int) : Int := ((zI a).toUInt32 >>> ((zI b).toUInt32 &&& Int32.toUInt32 31)).toInt32.toInt
theorem jx_ixor (C : Cx F G own cc nL ret) {a b : Int} (hd : Dn cc pc .ixor 1 pc2) (kk : jX F G nL k n Q pc2 L (.inl (zxor a b) :: st) μ) : jX F G nL k n Q pc L (.inl b :: .inl a :: st) μ := by
  obtain ⟨p, l, e, R, s, m, args, below, meth, c⟩ := F
  obtain ⟨hx, hb, -⟩ := C
  obtain ⟨hd, rfl⟩ := hd
  intro H locs ls hw hS h
  refine lv_ixor hx hb hd ?_
  have h2 := kk H locs ls hw hS h
  rw [show ((Sum.inl (zxor a b) : Sv) :: st).map vv = .int (zI (zI a ^^^ zI b).toInt) :: st.map vv from rfl, zI_of] at h2
  exact h2
theorem jx_ior (C : Cx F G own cc nL ret) {a b : Int} (hd : Dn cc pc .ior 1 pc2) (kk : jX F G nL k n Q pc2 L (.inl (zor a b) :: st) μ) : jX F G nL k n Q pc L (.inl b :: .inl a :: st) μ := by
  obtain ⟨p, l, e, R, s, m, args, below, meth, c⟩ := F
  obtain ⟨hx, hb, -⟩ := C
  obtain ⟨hd, rfl⟩ := hd
  intro H locs ls hw hS h
  refine lv_ior hx hb hd ?_
  have h2 := kk H locs ls hw hS h
  rw [show ((Sum.inl (zor a b) : Sv) :: st).map vv = .int (zI (zI a ||| zI b).toInt) :: st.map vv from rfl, zI_of] at h2
  exact h2
theorem jx_iand (C : Cx F G own cc nL ret) {a b : Int} (hd : Dn cc pc .iand 1 pc2) (kk : jX F G nL k n Q pc2 L (.inl (zand a b) :: st) μ) : jX F G nL k n Q pc L (.inl b :: .inl a :: st) μ := by
  obtain ⟨p, l, e, R, s, m, args, below, meth, c⟩ := F
  obtain ⟨hx, hb, -⟩ := C
  obtain ⟨hd, rfl⟩ := hd
  intro H locs ls hw hS h
  refine lv_iand hx hb hd ?_
  have h2 := kk H locs ls hw hS h
  rw [show ((Sum.inl (zand a b) : Sv) :: st).map vv = .int (zI (zI a &&& zI b).toInt) :: st.map vv from rfl, zI_of] at h2
  exact h2
theorem jx_ishl (C : Cx F G own cc nL ret) {a b : Int} (hd : Dn cc pc .ishl 1 pc2) (kk : jX F G nL k n Q pc2 L (.inl (zshl a b) :: st) μ) : jX F G nL k n Q pc L (.inl b :: .inl a :: st) μ := by
  obtain ⟨p, l, e, R, s, m, args, below, meth, c⟩ := F
  obtain ⟨hx, hb, -⟩ := C
  obtain ⟨hd, rfl⟩ := hd
  intro H locs ls hw hS h
  refine lv_ishl hx hb hd ?_
  have h2 := kk H locs ls hw hS h
  rw [show ((Sum.inl (zshl a b) : Sv) :: st).map vv = .int (zI (zI a <<< (zI b &&& 31)).toInt) :: st.map vv from rfl, zI_of] at h2
  exact h2
theorem jx_ishr (C : Cx F G own cc nL ret) {a b : Int} (hd : Dn cc pc .ishr 1 pc2) (kk : jX F G nL k n Q pc2 L (.inl (zshr a b) :: st) μ) : jX F G nL k n Q pc L (.inl b :: .inl a :: st) μ := by
  obtain ⟨p, l, e, R, s, m, args, below, meth, c⟩ := F
  obtain ⟨hx, hb, -⟩ := C
  obtain ⟨hd, rfl⟩ := hd
  intro H locs ls hw hS h
  refine lv_ishr hx hb hd ?_
  have h2 := kk H locs ls hw hS h
  rw [show ((Sum.inl (zshr a b) : Sv) :: st).map vv = .int (zI (zI a >>> (zI b &&& 31)).toInt) :: st.map vv from rfl, zI_of] at h2
  exact h2
theorem jx_iushr (C : Cx F G own cc nL ret) {a b : Int} (hd : Dn cc pc .iushr 1 pc2) (kk : jX F G nL k n Q pc2 L (.inl (zushr a b) :: st) μ) : jX F G nL k n Q pc L (.inl b :: .inl a :: st) μ := by
  obtain ⟨p, l, e, R, s, m, args, below, meth, c⟩ := F
  obtain ⟨hx, hb, -⟩ := C
  obtain ⟨hd, rfl⟩ := hd
  intro H locs ls hw hS h
  refine lv_iushr hx hb hd rfl ?_
  have h2 := kk H locs ls hw hS h
  rw [show ((Sum.inl (zushr a b) : Sv) :: st).map vv = .int (zI ((zI a).toUInt32 >>> ((zI b).toUInt32 &&& Int32.toUInt32 31)).toInt32.toInt) :: st.map vv from rfl, zI_of] at h2
  exact h2
theorem jx_dup (C : Cx F G own cc nL ret) {v : Sv} (hd : Dn cc pc .dup 1 pc2) (kk : jX F G nL k n Q pc2 L (v :: v :: st) μ) : jX F G nL k n Q pc L (v :: st) μ := by
  obtain ⟨p, l, e, R, s, m, args, below, meth, c⟩ := F
  obtain ⟨hx, hb, -⟩ := C
  obtain ⟨hd, rfl⟩ := hd
  intro H locs ls hw hS h
  exact lv_dup hx hb hd (vv_cat v) (kk H locs ls hw hS h)
theorem jx_dup2 (C : Cx F G own cc nL ret) {v w : Sv} (hd : Dn cc pc .dup2 1 pc2) (kk : jX F G nL k n Q pc2 L (v :: w :: v :: w :: st) μ) : jX F G nL k n Q pc L (v :: w :: st) μ := by
  obtain ⟨p, l, e, R, s, m, args, below, meth, c⟩ := F
  obtain ⟨hx, hb, -⟩ := C
  obtain ⟨hd, rfl⟩ := hd
  intro H locs ls hw hS h
  exact lv_dup2_11 hx hb hd (vv_cat v) (vv_cat w) (kk H locs ls hw hS h)
theorem jx_goto (C : Cx F G own cc nL ret) (hd : Dj cc pc .goto off 3 pc2 tgt) (kk : jX F G nL k n Q tgt L st μ) : jX F G nL k n Q pc L st μ := by
  obtain ⟨p, l, e, R, s, m, args, below, meth, c⟩ := F
  obtain ⟨hx, hb, -⟩ := C
  obtain ⟨hd, -, ht⟩ := hd
  intro H locs ls hw hS h
  exact lv_goto hx hb hd ht (kk H locs ls hw hS h)
theorem jx_icmp_lt (C : Cx F G own cc nL ret) {a b : Int} (hd : Dj cc pc (fun o => .if_icmp .lt o) off 3 pc2 tgt) (ha : InR a) (hb : InR b) (kt : a < b → jX F G nL k n Q tgt L st μ) (kf : ¬ a < b → jX F G nL k n Q pc2 L st μ) : jX F G nL k n Q pc L (.inl b :: .inl a :: st) μ := by
  obtain ⟨p, l, e, R, s, m, args, below, meth, c⟩ := F
  obtain ⟨hx, hbb, -⟩ := C
  obtain ⟨hd, rfl, ht⟩ := hd
  intro H locs ls hw hS h
  exact lv_icmp_lt hx hbb hd ht (fun q => kt (by rw [zI_lt ha hb] at q; exact q) H locs ls hw hS h) (fun q => kf (by rw [zI_lt ha hb] at q; exact q) H locs ls hw hS h)
theorem jx_if_lt (C : Cx F G own cc nL ret) {a : Int} (hd : Dj cc pc (fun o => .ifCond .lt o) off 3 pc2 tgt) (ha : InR a) (kt : a < 0 → jX F G nL k n Q tgt L st μ) (kf : ¬ a < 0 → jX F G nL k n Q pc2 L st μ) : jX F G nL k n Q pc L (.inl a :: st) μ := by
  obtain ⟨p, l, e, R, s, m, args, below, meth, c⟩ := F
  obtain ⟨hx, hbb, -⟩ := C
  obtain ⟨hd, rfl, ht⟩ := hd
  intro H locs ls hw hS h
  exact lv_if_lt hx hbb hd ht (fun q => kt (by rw [← zI_0, zI_lt ha (⟨by decide, by decide⟩ : InR 0)] at q; exact q) H locs ls hw hS h) (fun q => kf (by rw [← zI_0, zI_lt ha (⟨by decide, by decide⟩ : InR 0)] at q; exact q) H locs ls hw hS h)
theorem jx_icmp_ge (C : Cx F G own cc nL ret) {a b : Int} (hd : Dj cc pc (fun o => .if_icmp .ge o) off 3 pc2 tgt) (ha : InR a) (hb : InR b) (kt : b ≤ a → jX F G nL k n Q tgt L st μ) (kf : ¬ b ≤ a → jX F G nL k n Q pc2 L st μ) : jX F G nL k n Q pc L (.inl b :: .inl a :: st) μ := by
  obtain ⟨p, l, e, R, s, m, args, below, meth, c⟩ := F
  obtain ⟨hx, hbb, -⟩ := C
  obtain ⟨hd, rfl, ht⟩ := hd
  intro H locs ls hw hS h
  exact lv_icmp_ge hx hbb hd ht (fun q => kt (by rw [zI_le hb ha] at q; exact q) H locs ls hw hS h) (fun q => kf (by rw [zI_le hb ha] at q; exact q) H locs ls hw hS h)
theorem jx_if_ge (C : Cx F G own cc nL ret) {a : Int} (hd : Dj cc pc (fun o => .ifCond .ge o) off 3 pc2 tgt) (ha : InR a) (kt : 0 ≤ a → jX F G nL k n Q tgt L st μ) (kf : ¬ 0 ≤ a → jX F G nL k n Q pc2 L st μ) : jX F G nL k n Q pc L (.inl a :: st) μ := by
  obtain ⟨p, l, e, R, s, m, args, below, meth, c⟩ := F
  obtain ⟨hx, hbb, -⟩ := C
  obtain ⟨hd, rfl, ht⟩ := hd
  intro H locs ls hw hS h
  exact lv_if_ge hx hbb hd ht (fun q => kt (by rw [← zI_0, zI_le (⟨by decide, by decide⟩ : InR 0) ha] at q; exact q) H locs ls hw hS h) (fun q => kf (by rw [← zI_0, zI_le (⟨by decide, by decide⟩ : InR 0) ha] at q; exact q) H locs ls hw hS h)
theorem jx_icmp_gt (C : Cx F G own cc nL ret) {a b : Int} (hd : Dj cc pc (fun o => .if_icmp .gt o) off 3 pc2 tgt) (ha : InR a) (hb : InR b) (kt : b < a → jX F G nL k n Q tgt L st μ) (kf : ¬ b < a → jX F G nL k n Q pc2 L st μ) : jX F G nL k n Q pc L (.inl b :: .inl a :: st) μ := by
  obtain ⟨p, l, e, R, s, m, args, below, meth, c⟩ := F
  obtain ⟨hx, hbb, -⟩ := C
  obtain ⟨hd, rfl, ht⟩ := hd
  intro H locs ls hw hS h
  exact lv_icmp_gt hx hbb hd ht (fun q => kt (by rw [zI_lt hb ha] at q; exact q) H locs ls hw hS h) (fun q => kf (by rw [zI_lt hb ha] at q; exact q) H locs ls hw hS h)
theorem jx_if_gt (C : Cx F G own cc nL ret) {a : Int} (hd : Dj cc pc (fun o => .ifCond .gt o) off 3 pc2 tgt) (ha : InR a) (kt : 0 < a → jX F G nL k n Q tgt L st μ) (kf : ¬ 0 < a → jX F G nL k n Q pc2 L st μ) : jX F G nL k n Q pc L (.inl a :: st) μ := by
  obtain ⟨p, l, e, R, s, m, args, below, meth, c⟩ := F
  obtain ⟨hx, hbb, -⟩ := C
  obtain ⟨hd, rfl, ht⟩ := hd
  intro H locs ls hw hS h
  exact lv_if_gt hx hbb hd ht (fun q => kt (by rw [← zI_0, zI_lt (⟨by decide, by decide⟩ : InR 0) ha] at q; exact q) H locs ls hw hS h) (fun q => kf (by rw [← zI_0, zI_lt (⟨by decide, by decide⟩ : InR 0) ha] at q; exact q) H locs ls hw hS h)
theorem jx_icmp_le (C : Cx F G own cc nL ret) {a b : Int} (hd : Dj cc pc (fun o => .if_icmp .le o) off 3 pc2 tgt) (ha : InR a) (hb : InR b) (kt : a ≤ b → jX F G nL k n Q tgt L st μ) (kf : ¬ a ≤ b → jX F G nL k n Q pc2 L st μ) : jX F G nL k n Q pc L (.inl b :: .inl a :: st) μ := by
  obtain ⟨p, l, e, R, s, m, args, below, meth, c⟩ := F
  obtain ⟨hx, hbb, -⟩ := C
  obtain ⟨hd, rfl, ht⟩ := hd
  intro H locs ls hw hS h
  exact lv_icmp_le hx hbb hd ht (fun q => kt (by rw [zI_le ha hb] at q; exact q) H locs ls hw hS h) (fun q => kf (by rw [zI_le ha hb] at q; exact q) H locs ls hw hS h)
theorem jx_if_le (C : Cx F G own cc nL ret) {a : Int} (hd : Dj cc pc (fun o => .ifCond .le o) off 3 pc2 tgt) (ha : InR a) (kt : a ≤ 0 → jX F G nL k n Q tgt L st μ) (kf : ¬ a ≤ 0 → jX F G nL k n Q pc2 L st μ) : jX F G nL k n Q pc L (.inl a :: st) μ := by
  obtain ⟨p, l, e, R, s, m, args, below, meth, c⟩ := F
  obtain ⟨hx, hbb, -⟩ := C
  obtain ⟨hd, rfl, ht⟩ := hd
  intro H locs ls hw hS h
  exact lv_if_le hx hbb hd ht (fun q => kt (by rw [← zI_0, zI_le ha (⟨by decide, by decide⟩ : InR 0)] at q; exact q) H locs ls hw hS h) (fun q => kf (by rw [← zI_0, zI_le ha (⟨by decide, by decide⟩ : InR 0)] at q; exact q) H locs ls hw hS h)
theorem jx_icmp_eq (C : Cx F G own cc nL ret) {a b : Int} (hd : Dj cc pc (fun o => .if_icmp .eq o) off 3 pc2 tgt) (ha : InR a) (hb : InR b) (kt : a = b → jX F G nL k n Q tgt L st μ) (kf : ¬ a = b → jX F G nL k n Q pc2 L st μ) : jX F G nL k n Q pc L (.inl b :: .inl a :: st) μ := by
  obtain ⟨p, l, e, R, s, m, args, below, meth, c⟩ := F
  obtain ⟨hx, hbb, -⟩ := C
  obtain ⟨hd, rfl, ht⟩ := hd
  intro H locs ls hw hS h
  exact lv_icmp_eq hx hbb hd ht (fun q => kt (by rw [zI_eq ha hb] at q; exact q) H locs ls hw hS h) (fun q => kf (by rw [zI_eq ha hb] at q; exact q) H locs ls hw hS h)
theorem jx_if_eq (C : Cx F G own cc nL ret) {a : Int} (hd : Dj cc pc (fun o => .ifCond .eq o) off 3 pc2 tgt) (ha : InR a) (kt : a = 0 → jX F G nL k n Q tgt L st μ) (kf : ¬ a = 0 → jX F G nL k n Q pc2 L st μ) : jX F G nL k n Q pc L (.inl a :: st) μ := by
  obtain ⟨p, l, e, R, s, m, args, below, meth, c⟩ := F
  obtain ⟨hx, hbb, -⟩ := C
  obtain ⟨hd, rfl, ht⟩ := hd
  intro H locs ls hw hS h
  exact lv_if_eq hx hbb hd ht (fun q => kt (by rw [← zI_0, zI_eq ha (⟨by decide, by decide⟩ : InR 0)] at q; exact q) H locs ls hw hS h) (fun q => kf (by rw [← zI_0, zI_eq ha (⟨by decide, by decide⟩ : InR 0)] at q; exact q) H locs ls hw hS h)
theorem jx_icmp_ne (C : Cx F G own cc nL ret) {a b : Int} (hd : Dj cc pc (fun o => .if_icmp .ne o) off 3 pc2 tgt) (ha : InR a) (hb : InR b) (kt : ¬ a = b → jX F G nL k n Q tgt L st μ) (kf : a = b → jX F G nL k n Q pc2 L st μ) : jX F G nL k n Q pc L (.inl b :: .inl a :: st) μ := by
  obtain ⟨p, l, e, R, s, m, args, below, meth, c⟩ := F
  obtain ⟨hx, hbb, -⟩ := C
  obtain ⟨hd, rfl, ht⟩ := hd
  intro H locs ls hw hS h
  exact lv_icmp_ne hx hbb hd ht (fun q => kt (by rw [zI_eq ha hb] at q; exact q) H locs ls hw hS h) (fun q => kf (by rw [zI_eq ha hb] at q; exact q) H locs ls hw hS h)
theorem jx_if_ne (C : Cx F G own cc nL ret) {a : Int} (hd : Dj cc pc (fun o => .ifCond .ne o) off 3 pc2 tgt) (ha : InR a) (kt : ¬ a = 0 → jX F G nL k n Q tgt L st μ) (kf : a = 0 → jX F G nL k n Q pc2 L st μ) : jX F G nL k n Q pc L (.inl a :: st) μ := by
  obtain ⟨p, l, e, R, s, m, args, below, meth, c⟩ := F
  obtain ⟨hx, hbb, -⟩ := C
  obtain ⟨hd, rfl, ht⟩ := hd
  intro H locs ls hw hS h
  exact lv_if_ne hx hbb hd ht (fun q => kt (by rw [← zI_0, zI_eq ha (⟨by decide, by decide⟩ : InR 0)] at q; exact q) H locs ls hw hS h) (fun q => kf (by rw [← zI_0, zI_eq ha (⟨by decide, by decide⟩ : InR 0)] at q; exact q) H locs ls hw hS h)
theorem jx_tableIn (C : Cx F G own cc nL ret) {z dflt lo hi : Int} {offs : Array Int} {len : Nat} (hd : Dn cc pc (.tableswitch dflt lo hi offs) len pc2) (hz : InR z) (h1 : lo ≤ z) (h2 : z ≤ hi) (ho : offs[(z - lo).toNat]? = some off) (ht : (pc : Int) + off = (tgt : Int)) (kk : jX F G nL k n Q tgt L st μ) : jX F G nL k n Q pc L (.inl z :: st) μ := by
  obtain ⟨p, l, e, R, s, m, args, below, meth, c⟩ := F
  obtain ⟨hx, hbb, -⟩ := C
  obtain ⟨hd, rfl⟩ := hd
  intro H locs ls hw hS h
  exact lv_tableIn hx hbb hd (by rw [zI_toInt hz]; omega) (by rw [zI_toInt hz]; omega) (by rw [zI_toInt hz]; exact ho) ht (kk H locs ls hw hS h)
theorem jx_tableOut (C : Cx F G own cc nL ret) {z dflt lo hi : Int} {offs : Array Int} {len : Nat} (hd : Dn cc pc (.tableswitch dflt lo hi offs) len pc2) (hz : InR z) (h1 : z < lo ∨ hi < z) (ht : (pc : Int) + dflt = (tgt : Int)) (kk : jX F G nL k n Q tgt L st μ) : jX F G nL k n Q pc L (.inl z :: st) μ := by
  obtain ⟨p, l, e, R, s, m, args, below, meth, c⟩ := F
  obtain ⟨hx, hbb, -⟩ := C
  obtain ⟨hd, rfl⟩ := hd
  intro H locs ls hw hS h
  exact lv_tableOut hx hbb hd (by rw [zI_toInt hz]; exact h1) ht (kk H locs ls hw hS h)
theorem jx_lookup (C : Cx F G own cc nL ret) {z dflt : Int} {ps : Array (Int × Int)} {len : Nat} (hd : Dn cc pc (.lookupswitch dflt ps) len pc2) (hz : InR z) (hp : (ps.toList.zip (ps.toList.drop 1)).all (fun (a, next) => a.1 < next.1) = true) (ho : Op.lookupswitch.offset ps.toList dflt z = off) (ht : (pc : Int) + off = (tgt : Int)) (kk : jX F G nL k n Q tgt L st μ) : jX F G nL k n Q pc L (.inl z :: st) μ := by
  obtain ⟨p, l, e, R, s, m, args, below, meth, c⟩ := F
  obtain ⟨hx, hbb, -⟩ := C
  obtain ⟨hd, rfl⟩ := hd
  intro H locs ls hw hS h
  exact lv_lookup hx hbb hd hp (by rw [zI_toInt hz]; exact ho) ht (kk H locs ls hw hS h)
/-- the int on the top, by another name of the same number -/
theorem jx_top {a b : Int} (h : a = b) (kk : jX F G nL k n Q pc L (.inl b :: st) μ) : jX F G nL k n Q pc L (.inl a :: st) μ := by
  subst h; exact kk
theorem jx_nm {a : Int} (kk : ∀ b : Int, b = a → jX F G nL k n Q pc L (.inl b :: st) μ) : jX F G nL k n Q pc L (.inl a :: st) μ := kk a rfl
theorem jx_st {st' : List Sv} (h : st = st') (kk : jX F G nL k n Q pc L st' μ) : jX F G nL k n Q pc L st μ := by
  subst h; exact kk
theorem jx_lo (h : L = L') (kk : jX F G nL k n Q pc L' st μ) : jX F G nL k n Q pc L st μ := by
  subst h; exact kk
/-- fewer locals are known -/
theorem jx_fewer (h : ∀ (i : Nat) (v : Sv), L'[i]? = some (some v) → L[i]? = some (some v)) (kk : jX F G nL k n Q pc L' st μ) : jX F G nL k n Q pc L st μ := by
  obtain ⟨p, l, e, R, s, m, args, below, meth, c⟩ := F
  intro H locs ls hw hS hl
  refine kk H locs ls hw hS ⟨hl.1, hl.2.1, fun q hq => ?_⟩
  obtain ⟨j, w⟩ := q
  obtain ⟨u, -, h2, rfl⟩ := (vLi_mem L' 0 j w).mp hq
  exact vLi_at hl (h _ _ h2)
/-- a class's own table: its number, its words -/
def FT (ci : Nat) (Cn : String) (T : u_T) (N : Nat) (ty : Nat → FieldType) : Prop := jcls[ci]? = some (Cn, T, N) ∧ (∀ w ∈ u_ws Cn T N, w ∈ jws) ∧ (∀ j, j < N → parseFieldDescriptor (T j).2.2.1 = some (ty j)) ∧ (∀ a, a < N → ∀ b, b < N → a ≠ b → (T a).2.1 ≠ (T b).2.1)
theorem jx_get (C : Cx F G own cc nL ret) {q ci idx N : Nat} {Cn : String} {T : u_T} {ty : Nat → FieldType} {fs : List Value} (j : Nat) {v : Sv} (ft : FT ci Cn T N ty) (he : jcl G q (μ q) = .inr (ci, fs)) (hv : fs[j]? = some (vv v)) (hj : j < N) (hq : q < 96) (fl : Cond.fieldLink own idx (T j).1 (T j).2.1 (T j).2.2.1 ∈ jws) (hd : Dn cc pc (.getfield idx) 3 pc2) (kk : jX F G nL k n Q pc2 L (v :: st) μ) : jX F G nL k n Q pc L (.inr (ad G q) :: st) μ := by
  obtain ⟨p, l, e, R, s, m, args, below, meth, c⟩ := F
  obtain ⟨hx, hb, -, hown, hts, -, -, hK, -⟩ := C
  obtain ⟨hd, rfl⟩ := hd
  intro H locs ls hw hS h
  have hP : va_P (jD G) jcls [(ad G q, .inr (ci, fs))] H := by
    intro i x hi
    have := hw q hq
    rw [he] at this
    cases i with
    | zero => cases hi; exact this
    | succ i => simp at hi
  exact va_get (D := jD G) hx hb hts ft.2.1 hown hK hP 0 rfl ft.1 j hj (hts _ fl) (fun _ h9 => h9) hv hd (kk H locs ls hw hS h)
theorem jx_put (C : Cx F G own cc nL ret) {q ci idx N : Nat} {Cn : String} {T : u_T} {ty : Nat → FieldType} {fs : List Value} {z : Int} (j : Nat) (ft : FT ci Cn T N ty) (he : jcl G q (μ q) = .inr (ci, fs)) (he2 : jcl G q (fun t => if t = j then z else μ q t) = .inr (ci, fs.set j (.int (zI z)))) (hj : j < N) (hq : q < 96) (hfin : (T j).2.2.2 = false) (hty : ty j = .int ∨ (ty j = .boolean ∧ (z = 0 ∨ z = 1))) (hl : j < fs.length) (fl : Cond.fieldLink own idx (T j).1 (T j).2.1 (T j).2.2.1 ∈ jws) (hd : Dn cc pc (.putfield idx) 3 pc2) (kk : jX F G nL k n Q pc2 L st (jms μ q j z)) : jX F G nL k n Q pc L (.inl z :: .inr (ad G q) :: st) μ := by
  obtain ⟨p, l, e, R, s, m, args, below, meth, c⟩ := F
  obtain ⟨hx, hb, -, hown, hts, -, -, hK, -, -, hA⟩ := C
  obtain ⟨hd, rfl⟩ := hd
  intro H locs ls hw hS h
  have hq0 := hw q hq
  rw [he] at hq0
  have hnf : narrow (ty j) (.int (zI z)) = .int (zI z) ∧ fits (ty j) (.int (zI z)) = true := by
    rcases hty with h1 | ⟨h1, rfl | rfl⟩
    · rw [h1]; exact ⟨rfl, rfl⟩
    · rw [h1]; exact ⟨by decide +kernel, by decide +kernel⟩
    · rw [h1]; exact ⟨by decide +kernel, by decide +kernel⟩
  have hap := va_apart (own := own) hts ft.2.1 ty ft.2.2.1 ft.2.2.2 hK ft.1
  obtain ⟨r, h1, cell, q1, q2, q3, q4⟩ := hq0
  have hr : r = (Cn, T, N) := Option.some.inj (h1.symm.trans ft.1)
  subst hr
  obtain ⟨hSl, hfc, kC, hkC, hkind⟩ := hK.1 ci _ ft.1
  obtain ⟨cf, kf, fi, f, hi, hsl⟩ := hSl j hj
  have hlay := hts _ (ft.2.1 _ (u_in_lay hj))
  unfold u_lay at hlay
  rw [if_neg (by rw [hfin]; decide)] at hlay
  have hst := (u_facts hfc hkC (u_lays hts ft.2.1 hj) hi).1
  have h6 := u_store hfc hkC hkind hlay hi (ft.2.2.1 j hj) hnf.1 hnf.2
  refine W.putK hx hb (f := f) ⟨hown, hts _ fl, ⟨_, _, _, hi⟩, hst⟩ (by rw [q2]; exact h6) q1 q3 (by rw [hsl]; exact k2_hasslot (q4 j hj)) rfl rfl hd fun H' e1 e2 e3 => ?_
  rw [hsl] at e1 ⊢
  refine kk H' _ ls (jhw_put hw hA hq ?_ e3) (hS.put e2 e3 (hA.2 q hq)) h
  rw [he2]
  exact ⟨_, ft.1, t_OB.to (V := updV (vp_V fs) j (.int (zI z))) ⟨_, e1, q2, q3, t_set q4 hap hj _⟩ (fun i _ => vp_updV_set hl _ i)⟩
theorem jx_iald (C : Cx F G own cc nL ret) {q N : Nat} {i : Int} (he : jcl G q (μ q) = jia G N (μ q)) (hq : q < 96) (h0 : 0 ≤ i) (h1 : i < N) (hN : N < 2147483648) (hd : Dn cc pc .iaload 1 pc2) (kk : jX F G nL k n Q pc2 L (.inl (μ q i.toNat) :: st) μ) : jX F G nL k n Q pc L (.inl i :: .inr (ad G q) :: st) μ := by
  obtain ⟨p, l, e, R, s, m, args, below, meth, c⟩ := F
  obtain ⟨hx, hb, -, hown, hts, -, -, hK, -⟩ := C
  obtain ⟨hd, rfl⟩ := hd
  intro H locs ls hw hS h
  have hP : va_P (jD G) jcls [(ad G q, jia G N (μ q))] H := by
    intro x y hx
    have := hw q hq
    rw [he] at this
    cases x with
    | zero => cases hx; exact this
    | succ x => simp at hx
  refine va_iald (D := jD G) (tys := jtys G) hx hb hK hP 0 0 rfl rfl (zI_vpin h0 h1 hN) hd ?_
  rw [zI_clamp ⟨by omega, by omega⟩]
  exact kk H locs ls hw hS h
theorem jx_iast (C : Cx F G own cc nL ret) {q N : Nat} {i z : Int} (he : jcl G q (μ q) = jia G N (μ q)) (he2 : jcl G q (fun t => if t = i.toNat then z else μ q t) = jia G N (fun t => if t = i.toNat then z else μ q t)) (hq : q < 96) (h0 : 0 ≤ i) (h1 : i < N) (hN : N < 2147483648) (hd : Dn cc pc .iastore 1 pc2) (kk : jX F G nL k n Q pc2 L st (jms μ q i.toNat z)) : jX F G nL k n Q pc L (.inl z :: .inl i :: .inr (ad G q) :: st) μ := by
  obtain ⟨p, l, e, R, s, m, args, below, meth, c⟩ := F
  obtain ⟨hx, hb, -, hown, hts, -, -, hK, -, -, hA⟩ := C
  obtain ⟨hd, rfl⟩ := hd
  intro H locs ls hw hS h
  have hq0 : H[ad G q]? = some (vp_cell (jI G) (N, .inl (fun t => zI (μ q t)))) := by
    have := hw q hq
    rw [he] at this
    exact this
  have hir : InR i := ⟨by omega, by omega⟩
  refine W.iast hx hb hq0 ((hK.2 0 _ rfl).1 N (fun j => .int (zI (μ q j)))) (fun q => by cases q) (by show ¬ (zI i < 0 ∨ (arrV _ _ _).slots.size ≤ _); rw [arrV_size]; exact zI_vpin h0 h1 hN) rfl rfl hd fun H1 e z0 oq => ?_
  refine kk H1 _ ls (jhw_put hw hA hq ?_ oq) (hS.put z0 oq (hA.2 q hq)) h
  rw [he2]
  show H1[ad G q]? = some (vp_cell _ _)
  rw [e, vp_cell_i, vp_cell_i, arrV_store]
  congr 2
  funext t
  rw [zI_clamp hir]
  by_cases ht : t = i.toNat
  · subst ht
    simp [updV]
  · simp [updV, ht]
theorem jx_aald (C : Cx F G own cc nL ret) {q N b t0 : Nat} {cA : ClassId} {Cn : String} {i : Int} {p' : Nat} (he : jcl G q (μ q) = jqa cA N (fun t => ad G (b + t))) (ht : (jtys G)[t0]? = some (cA, .object Cn)) (hq : q < 96) (hi : i = (p' : Int)) (h1 : p' < N) (hN : N < 2147483648) (hd : Dn cc pc .aaload 1 pc2) (kk : jX F G nL k n Q pc2 L (.inr (ad G (b + p')) :: st) μ) : jX F G nL k n Q pc L (.inl i :: .inr (ad G q) :: st) μ := by
  obtain ⟨p, l, e, R, s, m, args, below, meth, c⟩ := F
  obtain ⟨hx, hb, -, hown, hts, -, -, hK, -⟩ := C
  obtain ⟨hd, rfl⟩ := hd
  subst hi
  intro H locs ls hw hS h
  have hP : va_P (jD G) jcls [(ad G q, jqa cA N (fun t => ad G (b + t)))] H := by
    intro x y hx
    have := hw q hq
    rw [he] at this
    cases x with
    | zero => cases hx; exact this
    | succ x => simp at hx
  refine va_aldq (D := jD G) (tys := jtys G) hx hb hK hP 0 t0 rfl ht (zI_vpin (by omega) (by omega) hN) hd ?_
  rw [zI_clamp ⟨by omega, by omega⟩]
  exact kk H locs ls hw hS h
theorem jx_alen (C : Cx F G own cc nL ret) {q N : Nat} (he : jcl G q (μ q) = jia G N (μ q)) (hq : q < 96) (hd : Dn cc pc .arraylength 1 pc2) (kk : jX F G nL k n Q pc2 L (.inl (N : Int) :: st) μ) : jX F G nL k n Q pc L (.inr (ad G q) :: st) μ := by
  obtain ⟨p, l, e, R, s, m, args, below, meth, c⟩ := F
  obtain ⟨hx, hb, -, hown, hts, -, -, hK, -⟩ := C
  obtain ⟨hd, rfl⟩ := hd
  intro H locs ls hw hS h
  have hP : va_P (jD G) jcls [(ad G q, jia G N (μ q))] H := by
    intro x y hx
    have := hw q hq
    rw [he] at this
    cases x with
    | zero => cases hx; exact this
    | succ x => simp at hx
  exact va_alen (D := jD G) (tys := jtys G) hx hb hK hP 0 0 rfl rfl (v := zI (N : Int)) (by unfold zI; rw [Int32.ofInt_eq_ofNat]) hd (kk H locs ls hw hS h)
theorem jx_gsx (C : Cx F G own cc nL ret) {idx : Nat} (fl : Cond.fieldLink own idx RX1 "WAYS_X" "[I" ∈ jws) (hd : Dn cc pc (.getstatic idx) 3 pc2) (kk : jX F G nL k n Q pc2 L (.inr (jwx G) :: st) μ) : jX F G nL k n Q pc L st μ := by
  obtain ⟨p, l, e, R, s, m, args, below, meth, c⟩ := F
  obtain ⟨hx, hb, -, hown, hts, -, -, hK, hZ, -⟩ := C
  obtain ⟨hd, rfl⟩ := hd
  intro H locs ls hw hS h
  exact va_gets hx hb hZ.1 hS hown (hts _ fl) (fun _ h => h) hd (kk H locs ls hw hS h)
theorem jx_gsy (C : Cx F G own cc nL ret) {idx : Nat} (fl : Cond.fieldLink own idx RX1 "WAYS_Y" "[I" ∈ jws) (hd : Dn cc pc (.getstatic idx) 3 pc2) (kk : jX F G nL k n Q pc2 L (.inr (jwy G) :: st) μ) : jX F G nL k n Q pc L st μ := by
  obtain ⟨p, l, e, R, s, m, args, below, meth, c⟩ := F
  obtain ⟨hx, hb, -, hown, hts, -, -, hK, hZ, -⟩ := C
  obtain ⟨hd, rfl⟩ := hd
  intro H locs ls hw hS h
  exact va_gets hx hb hZ.2.1 hS hown (hts _ fl) (fun _ h => h) hd (kk H locs ls hw hS h)
theorem jx_tx (C : Cx F G own cc nL ret) {i : Int} (h0 : 0 ≤ i) (h1 : i < 4) (hd : Dn cc pc .iaload 1 pc2) (kk : jX F G nL k n Q pc2 L (.inl (if i = 1 then 0 else 1) :: st) μ) : jX F G nL k n Q pc L (.inl i :: .inr (jwx G) :: st) μ := by
  obtain ⟨p, l, e, R, s, m, args, below, meth, c⟩ := F
  obtain ⟨hx, hb, -, hown, hts, -, -, hK, hZ, -⟩ := C
  obtain ⟨hd, rfl⟩ := hd
  intro H locs ls hw hS h
  refine va_ti hx hb hZ.2.2.1 hS (zI_vpin h0 (by omega) (by decide)) ?_ hd (kk H locs ls hw hS h)
  rw [zI_clamp ⟨by omega, by omega⟩]
  show Value.int (zI (if i.toNat = 1 then 0 else 1)) = Value.int (zI (if i = 1 then 0 else 1))
  by_cases h : i = 1
  · rw [if_pos h, if_pos (by omega)]
  · rw [if_neg h, if_neg (by omega)]
theorem jx_ty (C : Cx F G own cc nL ret) {i : Int} (h0 : 0 ≤ i) (h1 : i < 4) (hd : Dn cc pc .iaload 1 pc2) (kk : jX F G nL k n Q pc2 L (.inl (if i = 0 then 0 else if i = 3 then -1 else 1) :: st) μ) : jX F G nL k n Q pc L (.inl i :: .inr (jwy G) :: st) μ := by
  obtain ⟨p, l, e, R, s, m, args, below, meth, c⟩ := F
  obtain ⟨hx, hb, -, hown, hts, -, -, hK, hZ, -⟩ := C
  obtain ⟨hd, rfl⟩ := hd
  intro H locs ls hw hS h
  refine va_ti hx hb hZ.2.2.2.1 hS (zI_vpin h0 (by omega) (by decide)) ?_ hd (kk H locs ls hw hS h)
  rw [zI_clamp ⟨by omega, by omega⟩]
  show Value.int (zI (if i.toNat = 0 then 0 else if i.toNat = 3 then -1 else 1)) = Value.int (zI (if i = 0 then 0 else if i = 3 then -1 else 1))
  by_cases h : i = 0
  · rw [if_pos h, if_pos (by omega)]
  · rw [if_neg h, if_neg (by omega)]
    by_cases h : i = 3
    · rw [if_pos h, if_pos (by omega)]
    · rw [if_neg h, if_neg (by omega)]
theorem jx_tlen (C : Cx F G own cc nL ret) (w : Bool) (hd : Dn cc pc .arraylength 1 pc2) (kk : jX F G nL k n Q pc2 L (.inl 4 :: st) μ) : jX F G nL k n Q pc L (.inr (if w then jwx G else jwy G) :: st) μ := by
  obtain ⟨p, l, e, R, s, m, args, below, meth, c⟩ := F
  obtain ⟨hx, hb, -, hown, hts, -, -, hK, hZ, -⟩ := C
  obtain ⟨hd, rfl⟩ := hd
  intro H locs ls hw hS h
  cases w
  · exact va_tlen hx hb hZ.2.2.2.1 hS (v := zI 4) (by decide +kernel) hd (kk H locs ls hw hS h)
  · exact va_tlen hx hb hZ.2.2.1 hS (v := zI 4) (by decide +kernel) hd (kk H locs ls hw hS h)
end JX
end
section
/-! contracts over the world, and the calls -/
theorem jZs.same {G : GT} {u U : State} {H : Heap} (h : u.vm = U.vm) (hZ : jZs G u H) : jZs G U H := by
  have hv : u.vm.Alike U.vm := h ▸ Vm.Alike.refl _
  exact ⟨va_Z.moved hv hZ.1, va_Z.moved hv hZ.2.1, va_T.moved hv hZ.2.2.1, va_T.moved hv hZ.2.2.2.1, va_Nw.same rfl h hZ.2.2.2.2⟩
theorem jblind (G : GT) (μ : Mem) (av : List Value) : FrameBlind (va_Pc av (jWd G μ)) := by
  intro a U g mk h
  obtain ⟨h1, h2, h3, h4, h5⟩ := h
  exact ⟨h1, h2, va_K.moved (u := U) (U := U.calling g mk a) (Vm.Alike.refl U.vm) h3, jZs.same (u := U) (U := U.calling g mk a) rfl h4, h5⟩
def jl (F : FrT) : Launch := F.2.1
def jR (F : FrT) : Room := F.2.2.2.1
def Cy (F : FrT) (l : Launch) (rm : Room) : Prop := jl F = l ∧ jR F = rm
def jQi (G : GT) (post : Int → Mem → Prop) : Array Value → State → Outcome → State → Prop := va_Qi (fun (r : Int32) (μ' : Mem) => ∃ z, r = zI z ∧ post z μ') (fun μ' t => jWd G μ' t) (jA G)
def jQv (G : GT) (post : Mem → Prop) : Array Value → State → Outcome → State → Prop := va_Qv post (fun μ' t => jWd G μ' t) (jA G)
def jQr (G : GT) (post : Nat → Mem → Prop) : Array Value → State → Outcome → State → Prop := va_Qr (fun _ : Mem => True) (fun μ' a t => jWd G μ' t ∧ post a μ') (jA G)
def MI (l : Launch) (y : MethodName) (cc : ByteArray) (mL : Nat) (rt : FieldType) (rm : Room) (G : GT) (as : List Sv) (μ : Mem) (post : Int → Mem → Prop) : Prop := jadOK G → Met l y (.code y cc mL (some rt) :: jws) rm (va_Pc (as.map vv) (jWd G μ)) (jQi G post) 0 0 (jA G)
def MV (l : Launch) (y : MethodName) (cc : ByteArray) (mL : Nat) (rm : Room) (G : GT) (as : List Sv) (μ : Mem) (post : Mem → Prop) : Prop := jadOK G → Met l y (.code y cc mL none :: jws) rm (va_Pc (as.map vv) (jWd G μ)) (jQv G post) 0 0 (jA G)
def MR (l : Launch) (y : MethodName) (cc : ByteArray) (mL : Nat) (rt : FieldType) (rm : Room) (G : GT) (as : List Sv) (μ : Mem) (post : Nat → Mem → Prop) : Prop := jadOK G → Met l y (.code y cc mL (some rt) :: jws) rm (va_Pc (as.map vv) (jWd G μ)) (jQr G post) 0 0 (jA G)
def jE (F : FrT) (G : GT) (Qc : Array Value → State → Outcome → State → Prop) : State → Prop := match F with
  | (_, _, _, _, s, _, args, below, _, _) => MQ below Qc args s 0 0 (jA G)
def jini (as : List Sv) (mL : Nat) : List (Option Sv) := as.map some ++ List.replicate (mL - as.length) none
theorem jof {l : Launch} {y : MethodName} {cc : ByteArray} {mL : Nat} {ret : Option FieldType} {rm : Room} {G : GT} {as : List Sv} {μ : Mem} {Qc : Array Value → State → Outcome → State → Prop} (hy : plainName y.cls = true) (hn : as.length ≤ mL) (hA : jadOK G)
    (body : ∀ F : FrT, Cx F G y.cls cc mL ret → Cy F l rm → jX F G mL 0 0 (jE F G Qc) 0 (jini as mL) [] μ) : Met l y (.code y cc mL ret :: jws) rm (va_Pc (as.map vv) (jWd G μ)) Qc 0 0 (jA G) := by
  refine Met.ofW (cc := cc) (maxL := mL) (ret := ret) hy rfl ?_
  intro p e s m args below meth c s₁ B hml hv
  obtain ⟨rfl, hw, hK, hZ, hz⟩ := hv
  have hts := atoms_spec (ws := Cond.code y cc mL ret :: jws) B.pre
  have hown : s.vm.findClass y.cls = some m.cls := findClass_of_methodNamed B.named
  have hl := lv_entry (as.map vv) (n := mL) (by rw [lg_sl_vv]; exact hn)
  rw [lg_entry_eq]
  rw [vLi_entry as 0 (mL - as.length)] at hl
  exact body (p, l, e, rm, s, m, (as.map vv).toArray, below, meth, c) ⟨B.exec, B.bytes, hml, hown, fun w h => hts w (List.mem_cons_of_mem _ h), B.returns, B.notSynchronized, hK, hZ, hz, hA⟩ ⟨rfl, rfl⟩ s.heap [] _ hw va_S.rf hl
theorem MI.of {l : Launch} {y : MethodName} {cc : ByteArray} {mL : Nat} {rt : FieldType} {rm : Room} {G : GT} {as : List Sv} {μ : Mem} {post : Int → Mem → Prop} (hy : plainName y.cls = true) (hn : as.length ≤ mL)
    (body : ∀ F : FrT, Cx F G y.cls cc mL (some rt) → Cy F l rm → jX F G mL 0 0 (jE F G (jQi G post)) 0 (jini as mL) [] μ) : MI l y cc mL rt rm G as μ post := fun hA => jof hy hn hA body
theorem MV.of {l : Launch} {y : MethodName} {cc : ByteArray} {mL : Nat} {rm : Room} {G : GT} {as : List Sv} {μ : Mem} {post : Mem → Prop} (hy : plainName y.cls = true) (hn : as.length ≤ mL)
    (body : ∀ F : FrT, Cx F G y.cls cc mL none → Cy F l rm → jX F G mL 0 0 (jE F G (jQv G post)) 0 (jini as mL) [] μ) : MV l y cc mL rm G as μ post := fun hA => jof hy hn hA body
theorem MR.of {l : Launch} {y : MethodName} {cc : ByteArray} {mL : Nat} {rt : FieldType} {rm : Room} {G : GT} {as : List Sv} {μ : Mem} {post : Nat → Mem → Prop} (hy : plainName y.cls = true) (hn : as.length ≤ mL)
    (body : ∀ F : FrT, Cx F G y.cls cc mL (some rt) → Cy F l rm → jX F G mL 0 0 (jE F G (jQr G post)) 0 (jini as mL) [] μ) : MR l y cc mL rt rm G as μ post := fun hA => jof hy hn hA body
section JR
variable {F : FrT} {G : GT} {own : String} {cc : ByteArray} {nL k n : Nat} {ret : Option FieldType} {Q : State → Prop} {pc pc2 tgt : Nat} {L L' : List (Option Sv)} {st stk : List Sv} {μ : Mem} {l : Launch} {rm : Room}
theorem jWd_end {G : GT} {μ : Mem} {s t : State} {H : Heap} {locs : List Loc} (hK : va_K (jD G) jcls (jtys G) s) (hZ : jZs G s s.heap) (hz : jz G ≤ s.heap.size) (hw : jhw G μ H) (hS : va_S (jA G) s.heap H locs) (ht : t.heap = H) (hW : s.WarmedH t.vm) : jWd G μ t := by
  subst ht
  exact ⟨hw, va_K.moved hW.alike hK, jZs.moved hW (jZs.kept hZ (fun a h1 h2 => hS.2.1 a h1 h2)), Nat.le_trans hz hS.1⟩
theorem jx_iret {post : Int → Mem → Prop} (C : Cx F G own cc nL (some .int)) {z : Int} (hd : Dn cc pc .ireturn 1 pc2) (h : post z μ) : jX F G nL 0 0 (jE F G (jQi G post)) pc L [.inl z] μ := by
  obtain ⟨p, l, e, R, s, m, args, below, meth, c⟩ := F
  obtain ⟨hx, hb, -, hown, hts, hr, hlk, hK, hZ, hz, -⟩ := C
  obtain ⟨hd, rfl⟩ := hd
  intro H locs ls hw hS hl
  exact W.iret (v := zI z) hx hb hr (fun t ht hW => ⟨⟨zI z, μ, rfl, ⟨z, rfl, h⟩, jWd_end hK hZ hz hw hS ht hW⟩, hS.F ht⟩) hS.2.2 hd hlk
theorem jx_zret {post : Int → Mem → Prop} (C : Cx F G own cc nL (some .boolean)) {z : Int} (hd : Dn cc pc .ireturn 1 pc2) (hz01 : z = 0 ∨ z = 1) (h : post z μ) : jX F G nL 0 0 (jE F G (jQi G post)) pc L [.inl z] μ := by
  obtain ⟨p, l, e, R, s, m, args, below, meth, c⟩ := F
  obtain ⟨hx, hb, -, hown, hts, hr, hlk, hK, hZ, hz, -⟩ := C
  obtain ⟨hd, rfl⟩ := hd
  intro H locs ls hw hS hl
  have hn : narrow .boolean (.int (zI z)) = .int (zI z) := by
    rcases hz01 with rfl | rfl
    · decide +kernel
    · decide +kernel
  exact W.zret (v := zI z) hx hb hr hn (fun t ht hW => ⟨⟨zI z, μ, rfl, ⟨z, rfl, h⟩, jWd_end hK hZ hz hw hS ht hW⟩, hS.F ht⟩) hS.2.2 hd hlk
theorem jx_vret {post : Mem → Prop} (C : Cx F G own cc nL none) (hd : Dn cc pc .return_ 1 pc2) (h : post μ) : jX F G nL 0 0 (jE F G (jQv G post)) pc L [] μ := by
  obtain ⟨p, l, e, R, s, m, args, below, meth, c⟩ := F
  obtain ⟨hx, hb, -, hown, hts, hr, hlk, hK, hZ, hz, -⟩ := C
  obtain ⟨hd, rfl⟩ := hd
  intro H locs ls hw hS hl
  exact W.vret hx hb hr (fun t ht hW => ⟨⟨μ, rfl, h, jWd_end hK hZ hz hw hS ht hW⟩, hS.F ht⟩) hS.2.2 hd hlk
theorem jx_aret {post : Nat → Mem → Prop} {on : String} (C : Cx F G own cc nL (some (.object on))) {a : Nat} (hd : Dn cc pc .areturn 1 pc2) (h : post a μ) : jX F G nL 0 0 (jE F G (jQr G post)) pc L [.inr a] μ := by
  obtain ⟨p, l, e, R, s, m, args, below, meth, c⟩ := F
  obtain ⟨hx, hb, -, hown, hts, hr, hlk, hK, hZ, hz, -⟩ := C
  obtain ⟨hd, rfl⟩ := hd
  intro H locs ls hw hS hl
  exact W.aret (v := .ref a) hx hb hr (Or.inl ⟨on, rfl⟩) (Or.inr ⟨a, rfl⟩) (fun t ht hW => ⟨⟨μ, a, rfl, trivial, jWd_end hK hZ hz hw hS ht hW, h⟩, hS.F ht⟩) hS.2.2 hd hlk
def YB (y : MethodName) (cc : ByteArray) (mL : Nat) (r : Option FieldType) (na : Nat) : Prop := Cond.code y cc mL r ∈ jws ∧ Cond.initialized y.cls ∈ jws ∧ y.cls ≠ "java/lang/invoke/MethodHandle" ∧ y.cls ≠ "java/lang/invoke/VarHandle" ∧ (parseMethodDescriptor y.desc).map (fun d => d.parameters.length) = some na
def YV (y : MethodName) : Prop := Cond.instanceMethod y ∈ jws ∧ Cond.selects y.cls y y ∈ jws
def Rok (rm rmy : Room) (mL k n : Nat) : Prop := (rmy.cells = 0 ∧ rmy.slots = 0 ∧ rmy.frames + 1 ≤ rm.frames ∧ 8 + (mL + 11) + rmy.locals ≤ rm.locals) ∧ k ≤ rm.cells ∧ n ≤ rm.slots
theorem jcat : ∀ st : List Sv, ((st.map vv).map fun v => v.category).sum = st.length
  | [] => rfl
  | v :: st => by
    rw [List.map_cons, List.map_cons, List.sum_cons, jcat st, vv_cat, List.length_cons]; omega
/-- the run of a call, of the three kinds -/
def jRun (F : FrT) (G : GT) (nL k n : Nat) (pc : Nat) (L : List (Option Sv)) (stk st : List Sv) (μ : Mem) (Qa : State → Outcome → State → Prop) : Prop := match F with
  | (p, l, e, R, s, m, args, below, meth, c) => ∀ (H : Heap) (locs : List Loc) (ls : Array Slot), jhw G μ H → va_S (jA G) s.heap H locs → lv_has ls nL (vLi 0 L) → va_Run p l e R s m args below meth c H locs k n 0 0 (F0 m pc ls (stk.map vv)) (st.map vv) Qa (jA G)
theorem jrunV (C : Cx F G own cc nL ret) (Y : Cy F l rm) {y : MethodName} {ccy : ByteArray} {mL na idx q ci N : Nat} {r : Option FieldType} {rmy : Room} {as : List Sv} {Qc : Array Value → State → Outcome → State → Prop} {T : u_T} {fs : List Value} (hM : Met l y (.code y ccy mL r :: jws) rmy (va_Pc ((.inr (ad G q) :: as : List Sv).map vv) (jWd G μ)) Qc 0 0 (jA G)) (B : YB y ccy mL r na) (V : YV y) (hl : Cond.methodLink own idx y ∈ jws) (he : jcl G q (μ q) = .inr (ci, fs)) (hc : jcls[ci]? = some (y.cls, T, N)) (hq : q < 96) (hn : as.length = na) (hs : stk = as.reverse ++ .inr (ad G q) :: st) (hst : st.length ≤ 8) (hr : Rok rm rmy mL k n) (hd : Dn cc pc (.invokevirtual idx) 3 pc2) : jRun F G nL k n pc L stk st μ (Qc (((.inr (ad G q) :: as : List Sv).map vv).toArray)) := by
  obtain ⟨p, l, e, R, s, m, args, below, meth, c⟩ := F
  obtain ⟨hx, hb, hml, hown, hts, -, -, hK, hZ, hz, -⟩ := C
  obtain ⟨rfl, rfl⟩ := Y
  obtain ⟨hd, rfl⟩ := hd
  subst hs
  intro H locs ls hw hS h
  have hP : va_P (jD G) jcls [(ad G q, .inr (ci, fs))] H := by
    intro x y hx
    have := hw q hq
    rw [he] at this
    cases x with
    | zero => cases hx; exact this
    | succ x => simp at hx
  have key : ∀ U : State, U.heap = H → s.WarmedH U.vm → jWd G μ U := fun U hU hW => jWd_end hK hZ hz hw hS hU hW
  refine va_runV (As := as.map vv) (nL := nL) (n := na) (C := y.cls) (b := ad G q) (bytes := ccy) (maxL := mL) (ret := r) ⟨hx, hb, hml, hown, hts⟩ hM ⟨callB_of na hts (jgood y ccy mL r B.1) rfl hr.1.1 hr.1.2.1 (hts _ B.2.1) (hts _ hl) B.2.2 ⟨hr.1.2.2.1, hr.1.2.2.2⟩, hts _ V.1, hts _ V.2⟩ ⟨jblind G μ _, va_recv hK hP hc (q0 := 0) rfl, fun U hU hW => ⟨rfl, key U hU hW⟩⟩ rfl (by rw [List.length_map]; exact hn) h.1 ?_ (lv_room (by rw [jcat]; exact hst)) hd ⟨by rw [Nat.add_zero]; exact hr.2.1, by rw [Nat.add_zero]; exact hr.2.2⟩
  show (as.reverse ++ Sum.inr (ad G q) :: st).map vv = _
  rw [List.map_append, List.map_reverse]
  rfl
theorem jrunS (C : Cx F G own cc nL ret) (Y : Cy F l rm) {y : MethodName} {ccy : ByteArray} {mL na idx : Nat} {r : Option FieldType} {rmy : Room} {as : List Sv} {Qc : Array Value → State → Outcome → State → Prop} (hM : Met l y (.code y ccy mL r :: jws) rmy (va_Pc (as.map vv) (jWd G μ)) Qc 0 0 (jA G)) (B : YB y ccy mL r na) (V : Cond.static y ∈ jws) (hl : Cond.methodLink own idx y ∈ jws) (hn : as.length = na) (hs : stk = as.reverse ++ st) (hst : st.length ≤ 8) (hr : Rok rm rmy mL k n) (hd : Dn cc pc (.invokestatic idx) 3 pc2) : jRun F G nL k n pc L stk st μ (Qc ((as.map vv).toArray)) := by
  obtain ⟨p, l, e, R, s, m, args, below, meth, c⟩ := F
  obtain ⟨hx, hb, hml, hown, hts, -, -, hK, hZ, hz, -⟩ := C
  obtain ⟨rfl, rfl⟩ := Y
  obtain ⟨hd, rfl⟩ := hd
  subst hs
  intro H locs ls hw hS h
  have key : ∀ U : State, U.heap = H → s.WarmedH U.vm → jWd G μ U := fun U hU hW => jWd_end hK hZ hz hw hS hU hW
  refine va_runS (As := as.map vv) (nL := nL) (n := na) (bytes := ccy) (maxL := mL) (ret := r) ⟨hx, hb, hml, hown, hts⟩ hM ⟨callB_of na hts (jgood y ccy mL r B.1) rfl hr.1.1 hr.1.2.1 (hts _ B.2.1) (hts _ hl) B.2.2 ⟨hr.1.2.2.1, hr.1.2.2.2⟩, hts _ V⟩ ⟨jblind G μ _, fun U hU hW => ⟨rfl, key U hU hW⟩⟩ rfl (by rw [List.length_map]; exact hn) h.1 ?_ (lv_room (by rw [jcat]; exact hst)) hd ⟨by rw [Nat.add_zero]; exact hr.2.1, by rw [Nat.add_zero]; exact hr.2.2⟩
  show (as.reverse ++ st).map vv = _
  rw [List.map_append, List.map_reverse]
/-- PictureJoin.within, called from Dots -/
theorem jrunW (C : Cx F G "PictureJoin$Dots" cc nL ret) (Y : Cy F l rm) {ccy : ByteArray} {mL na : Nat} {r : Option FieldType} {rmy : Room} {as : List Sv} {Qc : Array Value → State → Outcome → State → Prop} (hM : Met l jwin (.code jwin ccy mL r :: jws) rmy (va_Pc (as.map vv) (jWd G μ)) Qc 0 0 (jA G)) (B : YB jwin ccy mL r na) (V : Cond.static jwin ∈ jws) (hn : as.length = na) (hs : stk = as.reverse ++ st) (hst : st.length ≤ 8) (hr : Rok rm rmy mL k n) (hd : Dn cc pc (.invokestatic 39) 3 pc2) : jRun F G nL k n pc L stk st μ (Qc ((as.map vv).toArray)) := by
  obtain ⟨p, l, e, R, s, m, args, below, meth, c⟩ := F
  obtain ⟨hx, hb, hml, hown, hts, -, -, hK, hZ, hz, -⟩ := C
  obtain ⟨rfl, rfl⟩ := Y
  obtain ⟨hd, rfl⟩ := hd
  subst hs
  intro H locs ls hw hS h
  have key : ∀ U : State, U.heap = H → s.WarmedH U.vm → jWd G μ U := fun U hU hW => jWd_end hK hZ hz hw hS hU hW
  refine va_runSN (host := "PictureJoin") (As := as.map vv) (nL := nL) (n := na) (bytes := ccy) (maxL := mL) (ret := r) ⟨hx, hb, hml, hown, hts⟩ hM ⟨va_cnB na hts (jgood jwin ccy mL r B.1) rfl hr.1.1 hr.1.2.1 hZ.2.2.2.2 (hts _ B.2.1) B.2.2 ⟨hr.1.2.2.1, hr.1.2.2.2⟩, hts _ V, trivial⟩ ⟨jblind G μ _, fun U hU hW => ⟨rfl, key U hU hW⟩⟩ rfl (by rw [List.length_map]; exact hn) h.1 ?_ (lv_room (by rw [jcat]; exact hst)) hd ⟨by rw [Nat.add_zero]; exact hr.2.1, by rw [Nat.add_zero]; exact hr.2.2⟩
  show (as.reverse ++ st).map vv = _
  rw [List.map_append, List.map_reverse]
theorem jx_ri (C : Cx F G own cc nL ret) {post : Int → Mem → Prop} {a : Array Value} (R : jRun F G nL k n pc L stk st μ (jQi G post a)) (kk : ∀ (z : Int) (μ' : Mem), post z μ' → jX F G nL k n Q (pc + 3) L (.inl z :: st) μ') : jX F G nL k n Q pc L stk μ := by
  obtain ⟨p, l, e, R, s, m, args, below, meth, c⟩ := F
  intro H locs ls hw hS h
  refine va_calli (R H locs ls hw hS h) hS (fun q _ h => h) (fun q h => h) (fun r u t H1 locs1 ht hvm hp hB hz1 hk1 hS1 => ?_)
  obtain ⟨z, rfl, hp⟩ := hp
  exact kk z u hp H1 locs1 ls (by rw [← ht]; exact hB.1) hS1 h
theorem jx_rv (C : Cx F G own cc nL ret) {post : Mem → Prop} {a : Array Value} (R : jRun F G nL k n pc L stk st μ (jQv G post a)) (kk : ∀ (μ' : Mem), post μ' → jX F G nL k n Q (pc + 3) L st μ') : jX F G nL k n Q pc L stk μ := by
  obtain ⟨p, l, e, R, s, m, args, below, meth, c⟩ := F
  intro H locs ls hw hS h
  refine va_callv (R H locs ls hw hS h) hS (fun q _ h => h) (fun q h => h) (fun u t H1 locs1 ht hvm hp hB hz1 hk1 hS1 => ?_)
  exact kk u hp H1 locs1 ls (by rw [← ht]; exact hB.1) hS1 h
theorem jx_rr (C : Cx F G own cc nL ret) {post : Nat → Mem → Prop} {a : Array Value} (R : jRun F G nL k n pc L stk st μ (jQr G post a)) (kk : ∀ (z : Nat) (μ' : Mem), post z μ' → jX F G nL k n Q (pc + 3) L (.inr z :: st) μ') : jX F G nL k n Q pc L stk μ := by
  obtain ⟨p, l, e, R, s, m, args, below, meth, c⟩ := F
  intro H locs ls hw hS h
  refine va_callr (R H locs ls hw hS h) hS (fun q _ h => h) (fun q h => h) (fun u ra t H1 locs1 ht hvm hp hB hz1 hk1 hS1 => ?_)
  exact kk ra u hB.2 H1 locs1 ls (by rw [← ht]; exact hB.1.1) hS1 h
section CV
variable {y : MethodName} {ccy : ByteArray} {mL na idx q ci N : Nat} {rt : FieldType} {rmy : Room} {as : List Sv} {T : u_T} {fs : List Value}
theorem Cx.ok (C : Cx F G own cc nL ret) : jadOK G := by
  obtain ⟨p, l, e, R, s, m, args, below, meth, c⟩ := F
  exact C.2.2.2.2.2.2.2.2.2.2
theorem jx_cVi (C : Cx F G own cc nL ret) (Y : Cy F l rm) {post : Int → Mem → Prop} (hM : MI l y ccy mL rt rmy G (.inr (ad G q) :: as) μ post) (B : YB y ccy mL (some rt) na) (V : YV y) (hl : Cond.methodLink own idx y ∈ jws) (he : jcl G q (μ q) = .inr (ci, fs)) (hc : jcls[ci]? = some (y.cls, T, N)) (hq : q < 96) (hn : as.length = na) (hs : stk = as.reverse ++ .inr (ad G q) :: st) (hst : st.length ≤ 8) (hr : Rok rm rmy mL k n) (hd : Dn cc pc (.invokevirtual idx) 3 pc2) (kk : ∀ (z : Int) (μ' : Mem), post z μ' → jX F G nL k n Q pc2 L (.inl z :: st) μ') : jX F G nL k n Q pc L stk μ :=
  jx_ri C (jrunV C Y (hM C.ok) B V hl he hc hq hn hs hst hr hd) (by have h2 := hd.2; subst h2; exact kk)
theorem jx_cVv (C : Cx F G own cc nL ret) (Y : Cy F l rm) {post : Mem → Prop} (hM : MV l y ccy mL rmy G (.inr (ad G q) :: as) μ post) (B : YB y ccy mL none na) (V : YV y) (hl : Cond.methodLink own idx y ∈ jws) (he : jcl G q (μ q) = .inr (ci, fs)) (hc : jcls[ci]? = some (y.cls, T, N)) (hq : q < 96) (hn : as.length = na) (hs : stk = as.reverse ++ .inr (ad G q) :: st) (hst : st.length ≤ 8) (hr : Rok rm rmy mL k n) (hd : Dn cc pc (.invokevirtual idx) 3 pc2) (kk : ∀ (μ' : Mem), post μ' → jX F G nL k n Q pc2 L st μ') : jX F G nL k n Q pc L stk μ :=
  jx_rv C (jrunV C Y (hM C.ok) B V hl he hc hq hn hs hst hr hd) (by have h2 := hd.2; subst h2; exact kk)
theorem jx_cVr (C : Cx F G own cc nL ret) (Y : Cy F l rm) {post : Nat → Mem → Prop} (hM : MR l y ccy mL rt rmy G (.inr (ad G q) :: as) μ post) (B : YB y ccy mL (some rt) na) (V : YV y) (hl : Cond.methodLink own idx y ∈ jws) (he : jcl G q (μ q) = .inr (ci, fs)) (hc : jcls[ci]? = some (y.cls, T, N)) (hq : q < 96) (hn : as.length = na) (hs : stk = as.reverse ++ .inr (ad G q) :: st) (hst : st.length ≤ 8) (hr : Rok rm rmy mL k n) (hd : Dn cc pc (.invokevirtual idx) 3 pc2) (kk : ∀ (z : Nat) (μ' : Mem), post z μ' → jX F G nL k n Q pc2 L (.inr z :: st) μ') : jX F G nL k n Q pc L stk μ :=
  jx_rr C (jrunV C Y (hM C.ok) B V hl he hc hq hn hs hst hr hd) (by have h2 := hd.2; subst h2; exact kk)
theorem jx_cSi (C : Cx F G own cc nL ret) (Y : Cy F l rm) {post : Int → Mem → Prop} (hM : MI l y ccy mL rt rmy G as μ post) (B : YB y ccy mL (some rt) na) (V : Cond.static y ∈ jws) (hl : Cond.methodLink own idx y ∈ jws) (hn : as.length = na) (hs : stk = as.reverse ++ st) (hst : st.length ≤ 8) (hr : Rok rm rmy mL k n) (hd : Dn cc pc (.invokestatic idx) 3 pc2) (kk : ∀ (z : Int) (μ' : Mem), post z μ' → jX F G nL k n Q pc2 L (.inl z :: st) μ') : jX F G nL k n Q pc L stk μ :=
  jx_ri C (jrunS C Y (hM C.ok) B V hl hn hs hst hr hd) (by have h2 := hd.2; subst h2; exact kk)
theorem jx_cWi (C : Cx F G "PictureJoin$Dots" cc nL ret) (Y : Cy F l rm) {post : Int → Mem → Prop} (hM : MI l jwin ccy mL rt rmy G as μ post) (B : YB jwin ccy mL (some rt) na) (V : Cond.static jwin ∈ jws) (hn : as.length = na) (hs : stk = as.reverse ++ st) (hst : st.length ≤ 8) (hr : Rok rm rmy mL k n) (hd : Dn cc pc (.invokestatic 39) 3 pc2) (kk : ∀ (z : Int) (μ' : Mem), post z μ' → jX F G nL k n Q pc2 L (.inl z :: st) μ') : jX F G nL k n Q pc L stk μ :=
  jx_ri C (jrunW C Y (hM C.ok) B V hn hs hst hr hd) (by have h2 := hd.2; subst h2; exact kk)
end CV
/-- what a method that changes nothing answers -/
def rdr (μ : Mem) (v : Int) : Int → Mem → Prop := fun z μ' => z = v ∧ μ' = μ
/-- an answer yes or no, nothing changed -/
def rdb (μ : Mem) (c : Prop) : Int → Mem → Prop := fun z μ' => μ' = μ ∧ ((z = 1 ∧ c) ∨ (z = 0 ∧ ¬ c))
theorem jx_max (C : Cx F G own cc nL ret) (Y : Cy F l rm) {a b : Int} {idx : Nat} (ha : InR a) (hb : InR b) (hl : Cond.methodLink own idx Lib.Math.max.name ∈ jws) (hms : Cond.static Lib.Math.max.name ∈ jws) (hmi : Cond.initialized "java/lang/Math" ∈ jws) (hmc : Cond.code Lib.Math.max.name Lib.Math.max.code 2 (some .int) ∈ jws) (hst : st.length ≤ 8) (hr : 1 ≤ rm.frames ∧ 21 ≤ rm.locals ∧ k ≤ rm.cells ∧ n ≤ rm.slots) (hd : Dn cc pc (.invokestatic idx) 3 pc2) (kk : jX F G nL k n Q pc2 L (.inl (max a b) :: st) μ) : jX F G nL k n Q pc L (.inl b :: .inl a :: st) μ := by
  obtain ⟨p, l, e, R, s, m, args, below, meth, c⟩ := F
  obtain ⟨hx, hbb, hml, hown, hts, -, -, hK, hZ, hz, -⟩ := C
  obtain ⟨rfl, rfl⟩ := Y
  obtain ⟨hd, rfl⟩ := hd
  intro H locs ls hw hS h
  refine va_mmax hx hbb (hml.trans h.1.symm) hown (hts _ hl) (hts _ hms) (hts _ hmi) (hts _ hmc) hr.1 (by rw [jcat]; exact Nat.le_trans (by omega) hr.2.1) hr.2.2.1 hr.2.2.2 hd ?_
  have e : (if zI a < zI b then zI b else zI a) = zI (max a b) := by
    by_cases hab : a < b
    · rw [if_pos ((zI_lt ha hb).mpr hab), Int.max_eq_right (Int.le_of_lt hab)]
    · rw [if_neg (fun q => hab ((zI_lt ha hb).mp q)), Int.max_eq_left (by omega)]
  rw [e]
  exact kk H locs ls hw hS h
theorem jx_min (C : Cx F G own cc nL ret) (Y : Cy F l rm) {a b : Int} {idx : Nat} (ha : InR a) (hb : InR b) (hl : Cond.methodLink own idx Lib.Math.min.name ∈ jws) (hms : Cond.static Lib.Math.min.name ∈ jws) (hmi : Cond.initialized "java/lang/Math" ∈ jws) (hmc : Cond.code Lib.Math.min.name Lib.Math.min.code 2 (some .int) ∈ jws) (hst : st.length ≤ 8) (hr : 1 ≤ rm.frames ∧ 21 ≤ rm.locals ∧ k ≤ rm.cells ∧ n ≤ rm.slots) (hd : Dn cc pc (.invokestatic idx) 3 pc2) (kk : jX F G nL k n Q pc2 L (.inl (min a b) :: st) μ) : jX F G nL k n Q pc L (.inl b :: .inl a :: st) μ := by
  obtain ⟨p, l, e, R, s, m, args, below, meth, c⟩ := F
  obtain ⟨hx, hbb, hml, hown, hts, -, -, hK, hZ, hz, -⟩ := C
  obtain ⟨rfl, rfl⟩ := Y
  obtain ⟨hd, rfl⟩ := hd
  intro H locs ls hw hS h
  refine va_mmin hx hbb (hml.trans h.1.symm) hown (hts _ hl) (hts _ hms) (hts _ hmi) (hts _ hmc) hr.1 (by rw [jcat]; exact Nat.le_trans (by omega) hr.2.1) hr.2.2.1 hr.2.2.2 hd ?_
  have e : (if zI b < zI a then zI b else zI a) = zI (min a b) := by
    by_cases hab : b < a
    · rw [if_pos ((zI_lt hb ha).mpr hab), Int.min_eq_right (Int.le_of_lt hab)]
    · rw [if_neg (fun q => hab ((zI_lt hb ha).mp q)), Int.min_eq_left (by omega)]
  rw [e]
  exact kk H locs ls hw hS h
theorem jx_abs (C : Cx F G own cc nL ret) (Y : Cy F l rm) {a : Int} {idx : Nat} (ha : InR a) (hl : Cond.methodLink own idx Lib.Math.abs.name ∈ jws) (hms : Cond.static Lib.Math.abs.name ∈ jws) (hmi : Cond.initialized "java/lang/Math" ∈ jws) (hmc : Cond.code Lib.Math.abs.name Lib.Math.abs.code 1 (some .int) ∈ jws) (hst : st.length ≤ 8) (hr : 1 ≤ rm.frames ∧ 21 ≤ rm.locals ∧ k ≤ rm.cells ∧ n ≤ rm.slots) (hd : Dn cc pc (.invokestatic idx) 3 pc2) (kk : jX F G nL k n Q pc2 L (.inl (if 0 ≤ a then a else 0 - a) :: st) μ) : jX F G nL k n Q pc L (.inl a :: st) μ := by
  obtain ⟨p, l, e, R, s, m, args, below, meth, c⟩ := F
  obtain ⟨hx, hbb, hml, hown, hts, -, -, hK, hZ, hz, -⟩ := C
  obtain ⟨rfl, rfl⟩ := Y
  obtain ⟨hd, rfl⟩ := hd
  intro H locs ls hw hS h
  refine va_mabs hx hbb (hml.trans h.1.symm) hown (hts _ hl) (hts _ hms) (hts _ hmi) (hts _ hmc) hr.1 (by rw [jcat]; exact Nat.le_trans (by omega) hr.2.1) hr.2.2.1 hr.2.2.2 hd ?_
  have e : (if 0 ≤ zI a then zI a else 0 - zI a) = zI (if 0 ≤ a then a else 0 - a) := by
    have h0 : (0 : Int32) = zI 0 := zI_0.symm
    by_cases hab : 0 ≤ a
    · rw [if_pos hab, if_pos (by rw [h0]; exact (zI_le ⟨by decide, by decide⟩ ha).mpr hab)]
    · rw [if_neg hab, if_neg (fun q => hab (by rw [h0] at q; exact (zI_le ⟨by decide, by decide⟩ ha).mp q)), h0, zI_sub]
  rw [e]
  exact kk H locs ls hw hS h
end JR
end
section
theorem wf_X8_44 : Cond.fieldLink "PictureJoin" 44 "PictureJoin$World" "seed" "I" ∈ jws := jm (List.mem_of_getElem? (i := 69) (by decide +kernel)) (by decide +kernel)
theorem wf_X7_11 : Cond.fieldLink "PictureJoin$World" 11 "PictureJoin$World" "seed" "I" ∈ jws := jm (List.mem_of_getElem? (i := 70) (by decide +kernel)) (by decide +kernel)
theorem wf_X1_9 : Cond.fieldLink "PictureJoin$Dots" 9 "PictureJoin$Dots" "values" "[I" ∈ jws := jm (List.mem_of_getElem? (i := 95) (by decide +kernel)) (by decide +kernel)
theorem wf_X1_15 : Cond.fieldLink "PictureJoin$Dots" 15 "PictureJoin$Dots" "scores" "[I" ∈ jws := jm (List.mem_of_getElem? (i := 96) (by decide +kernel)) (by decide +kernel)
theorem wf_X1_24 : Cond.fieldLink "PictureJoin$Dots" 24 "PictureJoin$Dots" "width" "I" ∈ jws := jm (List.mem_of_getElem? (i := 97) (by decide +kernel)) (by decide +kernel)
theorem wf_X2_33 : Cond.fieldLink "PictureJoin$Marks" 33 "PictureJoin$Dots" "width" "I" ∈ jws := jm (List.mem_of_getElem? (i := 98) (by decide +kernel)) (by decide +kernel)
theorem wf_X7_24 : Cond.fieldLink "PictureJoin$World" 24 "PictureJoin$Dots" "width" "I" ∈ jws := jm (List.mem_of_getElem? (i := 99) (by decide +kernel)) (by decide +kernel)
theorem wf_X5_39 : Cond.fieldLink "PictureJoin$Picture" 39 "PictureJoin$Dots" "width" "I" ∈ jws := jm (List.mem_of_getElem? (i := 100) (by decide +kernel)) (by decide +kernel)
theorem wf_X0_121 : Cond.fieldLink "PictureJoin$Album" 121 "PictureJoin$Dots" "width" "I" ∈ jws := jm (List.mem_of_getElem? (i := 101) (by decide +kernel)) (by decide +kernel)
theorem wf_X8_154 : Cond.fieldLink "PictureJoin" 154 "PictureJoin$Dots" "width" "I" ∈ jws := jm (List.mem_of_getElem? (i := 102) (by decide +kernel)) (by decide +kernel)
theorem wf_X2_28 : Cond.fieldLink "PictureJoin$Marks" 28 "PictureJoin$Dots" "height" "I" ∈ jws := jm (List.mem_of_getElem? (i := 103) (by decide +kernel)) (by decide +kernel)
theorem wf_X1_28 : Cond.fieldLink "PictureJoin$Dots" 28 "PictureJoin$Dots" "height" "I" ∈ jws := jm (List.mem_of_getElem? (i := 104) (by decide +kernel)) (by decide +kernel)
theorem wf_X7_19 : Cond.fieldLink "PictureJoin$World" 19 "PictureJoin$Dots" "height" "I" ∈ jws := jm (List.mem_of_getElem? (i := 105) (by decide +kernel)) (by decide +kernel)
theorem wf_X5_42 : Cond.fieldLink "PictureJoin$Picture" 42 "PictureJoin$Dots" "height" "I" ∈ jws := jm (List.mem_of_getElem? (i := 106) (by decide +kernel)) (by decide +kernel)
theorem wf_X0_118 : Cond.fieldLink "PictureJoin$Album" 118 "PictureJoin$Dots" "height" "I" ∈ jws := jm (List.mem_of_getElem? (i := 107) (by decide +kernel)) (by decide +kernel)
theorem wf_X8_157 : Cond.fieldLink "PictureJoin" 157 "PictureJoin$Dots" "height" "I" ∈ jws := jm (List.mem_of_getElem? (i := 108) (by decide +kernel)) (by decide +kernel)
theorem wf_X1_31 : Cond.fieldLink "PictureJoin$Dots" 31 "PictureJoin$Dots" "changed" "Z" ∈ jws := jm (List.mem_of_getElem? (i := 109) (by decide +kernel)) (by decide +kernel)
theorem wf_X2_9 : Cond.fieldLink "PictureJoin$Marks" 9 "PictureJoin$Marks" "columns" "[I" ∈ jws := jm (List.mem_of_getElem? (i := 128) (by decide +kernel)) (by decide +kernel)
theorem wf_X4_54 : Cond.fieldLink "PictureJoin$Pairing" 54 "PictureJoin$Marks" "columns" "[I" ∈ jws := jm (List.mem_of_getElem? (i := 129) (by decide +kernel)) (by decide +kernel)
theorem wf_X8_116 : Cond.fieldLink "PictureJoin" 116 "PictureJoin$Marks" "columns" "[I" ∈ jws := jm (List.mem_of_getElem? (i := 130) (by decide +kernel)) (by decide +kernel)
theorem wf_X2_15 : Cond.fieldLink "PictureJoin$Marks" 15 "PictureJoin$Marks" "rows" "[I" ∈ jws := jm (List.mem_of_getElem? (i := 131) (by decide +kernel)) (by decide +kernel)
theorem wf_X4_57 : Cond.fieldLink "PictureJoin$Pairing" 57 "PictureJoin$Marks" "rows" "[I" ∈ jws := jm (List.mem_of_getElem? (i := 132) (by decide +kernel)) (by decide +kernel)
theorem wf_X8_120 : Cond.fieldLink "PictureJoin" 120 "PictureJoin$Marks" "rows" "[I" ∈ jws := jm (List.mem_of_getElem? (i := 133) (by decide +kernel)) (by decide +kernel)
theorem wf_X2_18 : Cond.fieldLink "PictureJoin$Marks" 18 "PictureJoin$Marks" "heights" "[I" ∈ jws := jm (List.mem_of_getElem? (i := 134) (by decide +kernel)) (by decide +kernel)
theorem wf_X8_123 : Cond.fieldLink "PictureJoin" 123 "PictureJoin$Marks" "heights" "[I" ∈ jws := jm (List.mem_of_getElem? (i := 135) (by decide +kernel)) (by decide +kernel)
theorem wf_X2_21 : Cond.fieldLink "PictureJoin$Marks" 21 "PictureJoin$Marks" "signs" "[I" ∈ jws := jm (List.mem_of_getElem? (i := 136) (by decide +kernel)) (by decide +kernel)
theorem wf_X4_42 : Cond.fieldLink "PictureJoin$Pairing" 42 "PictureJoin$Marks" "signs" "[I" ∈ jws := jm (List.mem_of_getElem? (i := 137) (by decide +kernel)) (by decide +kernel)
theorem wf_X8_126 : Cond.fieldLink "PictureJoin" 126 "PictureJoin$Marks" "signs" "[I" ∈ jws := jm (List.mem_of_getElem? (i := 138) (by decide +kernel)) (by decide +kernel)
theorem wf_X2_24 : Cond.fieldLink "PictureJoin$Marks" 24 "PictureJoin$Marks" "count" "I" ∈ jws := jm (List.mem_of_getElem? (i := 139) (by decide +kernel)) (by decide +kernel)
theorem wf_X4_19 : Cond.fieldLink "PictureJoin$Pairing" 19 "PictureJoin$Marks" "count" "I" ∈ jws := jm (List.mem_of_getElem? (i := 140) (by decide +kernel)) (by decide +kernel)
theorem wf_X8_109 : Cond.fieldLink "PictureJoin" 109 "PictureJoin$Marks" "count" "I" ∈ jws := jm (List.mem_of_getElem? (i := 141) (by decide +kernel)) (by decide +kernel)
theorem wf_X5_12 : Cond.fieldLink "PictureJoin$Picture" 12 "PictureJoin$Picture" "dots" "LPictureJoin$Dots;" ∈ jws := jm (List.mem_of_getElem? (i := 153) (by decide +kernel)) (by decide +kernel)
theorem wf_X0_37 : Cond.fieldLink "PictureJoin$Album" 37 "PictureJoin$Picture" "dots" "LPictureJoin$Dots;" ∈ jws := jm (List.mem_of_getElem? (i := 154) (by decide +kernel)) (by decide +kernel)
theorem wf_X8_62 : Cond.fieldLink "PictureJoin" 62 "PictureJoin$Picture" "dots" "LPictureJoin$Dots;" ∈ jws := jm (List.mem_of_getElem? (i := 155) (by decide +kernel)) (by decide +kernel)
theorem wf_X5_21 : Cond.fieldLink "PictureJoin$Picture" 21 "PictureJoin$Picture" "marks" "LPictureJoin$Marks;" ∈ jws := jm (List.mem_of_getElem? (i := 156) (by decide +kernel)) (by decide +kernel)
theorem wf_X0_46 : Cond.fieldLink "PictureJoin$Album" 46 "PictureJoin$Picture" "marks" "LPictureJoin$Marks;" ∈ jws := jm (List.mem_of_getElem? (i := 157) (by decide +kernel)) (by decide +kernel)
theorem wf_X8_105 : Cond.fieldLink "PictureJoin" 105 "PictureJoin$Picture" "marks" "LPictureJoin$Marks;" ∈ jws := jm (List.mem_of_getElem? (i := 158) (by decide +kernel)) (by decide +kernel)
theorem wf_X5_29 : Cond.fieldLink "PictureJoin$Picture" 29 "PictureJoin$Picture" "x" "I" ∈ jws := jm (List.mem_of_getElem? (i := 159) (by decide +kernel)) (by decide +kernel)
theorem wf_X0_80 : Cond.fieldLink "PictureJoin$Album" 80 "PictureJoin$Picture" "x" "I" ∈ jws := jm (List.mem_of_getElem? (i := 160) (by decide +kernel)) (by decide +kernel)
theorem wf_X8_164 : Cond.fieldLink "PictureJoin" 164 "PictureJoin$Picture" "x" "I" ∈ jws := jm (List.mem_of_getElem? (i := 161) (by decide +kernel)) (by decide +kernel)
theorem wf_X5_32 : Cond.fieldLink "PictureJoin$Picture" 32 "PictureJoin$Picture" "y" "I" ∈ jws := jm (List.mem_of_getElem? (i := 162) (by decide +kernel)) (by decide +kernel)
theorem wf_X0_84 : Cond.fieldLink "PictureJoin$Album" 84 "PictureJoin$Picture" "y" "I" ∈ jws := jm (List.mem_of_getElem? (i := 163) (by decide +kernel)) (by decide +kernel)
theorem wf_X8_165 : Cond.fieldLink "PictureJoin" 165 "PictureJoin$Picture" "y" "I" ∈ jws := jm (List.mem_of_getElem? (i := 164) (by decide +kernel)) (by decide +kernel)
theorem wf_X0_88 : Cond.fieldLink "PictureJoin$Album" 88 "PictureJoin$Picture" "joiner" "I" ∈ jws := jm (List.mem_of_getElem? (i := 165) (by decide +kernel)) (by decide +kernel)
theorem wf_X8_166 : Cond.fieldLink "PictureJoin" 166 "PictureJoin$Picture" "joiner" "I" ∈ jws := jm (List.mem_of_getElem? (i := 166) (by decide +kernel)) (by decide +kernel)
theorem wf_X5_25 : Cond.fieldLink "PictureJoin$Picture" 25 "PictureJoin$Picture" "rank" "I" ∈ jws := jm (List.mem_of_getElem? (i := 167) (by decide +kernel)) (by decide +kernel)
theorem wf_X0_69 : Cond.fieldLink "PictureJoin$Album" 69 "PictureJoin$Picture" "rank" "I" ∈ jws := jm (List.mem_of_getElem? (i := 168) (by decide +kernel)) (by decide +kernel)
theorem wf_X8_169 : Cond.fieldLink "PictureJoin" 169 "PictureJoin$Picture" "rank" "I" ∈ jws := jm (List.mem_of_getElem? (i := 169) (by decide +kernel)) (by decide +kernel)
theorem wf_X4_9 : Cond.fieldLink "PictureJoin$Pairing" 9 "PictureJoin$Pairing" "partners" "[I" ∈ jws := jm (List.mem_of_getElem? (i := 188) (by decide +kernel)) (by decide +kernel)
theorem wf_X8_136 : Cond.fieldLink "PictureJoin" 136 "PictureJoin$Pairing" "partners" "[I" ∈ jws := jm (List.mem_of_getElem? (i := 189) (by decide +kernel)) (by decide +kernel)
theorem wf_X4_15 : Cond.fieldLink "PictureJoin$Pairing" 15 "PictureJoin$Pairing" "matches" "I" ∈ jws := jm (List.mem_of_getElem? (i := 190) (by decide +kernel)) (by decide +kernel)
theorem wf_X8_141 : Cond.fieldLink "PictureJoin" 141 "PictureJoin$Pairing" "matches" "I" ∈ jws := jm (List.mem_of_getElem? (i := 191) (by decide +kernel)) (by decide +kernel)
theorem wf_X4_28 : Cond.fieldLink "PictureJoin$Pairing" 28 "PictureJoin$Pairing" "votes" "I" ∈ jws := jm (List.mem_of_getElem? (i := 192) (by decide +kernel)) (by decide +kernel)
theorem wf_X0_95 : Cond.fieldLink "PictureJoin$Album" 95 "PictureJoin$Pairing" "votes" "I" ∈ jws := jm (List.mem_of_getElem? (i := 193) (by decide +kernel)) (by decide +kernel)
theorem wf_X8_144 : Cond.fieldLink "PictureJoin" 144 "PictureJoin$Pairing" "votes" "I" ∈ jws := jm (List.mem_of_getElem? (i := 194) (by decide +kernel)) (by decide +kernel)
theorem wf_X0_83 : Cond.fieldLink "PictureJoin$Album" 83 "PictureJoin$Pairing" "x" "I" ∈ jws := jm (List.mem_of_getElem? (i := 195) (by decide +kernel)) (by decide +kernel)
theorem wf_X4_60 : Cond.fieldLink "PictureJoin$Pairing" 60 "PictureJoin$Pairing" "x" "I" ∈ jws := jm (List.mem_of_getElem? (i := 196) (by decide +kernel)) (by decide +kernel)
theorem wf_X8_148 : Cond.fieldLink "PictureJoin" 148 "PictureJoin$Pairing" "x" "I" ∈ jws := jm (List.mem_of_getElem? (i := 197) (by decide +kernel)) (by decide +kernel)
theorem wf_X0_87 : Cond.fieldLink "PictureJoin$Album" 87 "PictureJoin$Pairing" "y" "I" ∈ jws := jm (List.mem_of_getElem? (i := 198) (by decide +kernel)) (by decide +kernel)
theorem wf_X4_63 : Cond.fieldLink "PictureJoin$Pairing" 63 "PictureJoin$Pairing" "y" "I" ∈ jws := jm (List.mem_of_getElem? (i := 199) (by decide +kernel)) (by decide +kernel)
theorem wf_X8_151 : Cond.fieldLink "PictureJoin" 151 "PictureJoin$Pairing" "y" "I" ∈ jws := jm (List.mem_of_getElem? (i := 200) (by decide +kernel)) (by decide +kernel)
theorem wf_X0_11 : Cond.fieldLink "PictureJoin$Album" 11 "PictureJoin$Album" "pictures" "[LPictureJoin$Picture;" ∈ jws := jm (List.mem_of_getElem? (i := 212) (by decide +kernel)) (by decide +kernel)
theorem wf_X8_58 : Cond.fieldLink "PictureJoin" 58 "PictureJoin$Album" "pictures" "[LPictureJoin$Picture;" ∈ jws := jm (List.mem_of_getElem? (i := 213) (by decide +kernel)) (by decide +kernel)
theorem wf_X0_19 : Cond.fieldLink "PictureJoin$Album" 19 "PictureJoin$Album" "pairings" "[LPictureJoin$Pairing;" ∈ jws := jm (List.mem_of_getElem? (i := 214) (by decide +kernel)) (by decide +kernel)
theorem wf_X0_23 : Cond.fieldLink "PictureJoin$Album" 23 "PictureJoin$Album" "order" "[I" ∈ jws := jm (List.mem_of_getElem? (i := 215) (by decide +kernel)) (by decide +kernel)
theorem wf_X0_33 : Cond.fieldLink "PictureJoin$Album" 33 "PictureJoin$Album" "count" "I" ∈ jws := jm (List.mem_of_getElem? (i := 216) (by decide +kernel)) (by decide +kernel)
theorem wf_X8_55 : Cond.fieldLink "PictureJoin" 55 "PictureJoin$Album" "count" "I" ∈ jws := jm (List.mem_of_getElem? (i := 217) (by decide +kernel)) (by decide +kernel)
theorem wf_X0_66 : Cond.fieldLink "PictureJoin$Album" 66 "PictureJoin$Album" "joinedCount" "I" ∈ jws := jm (List.mem_of_getElem? (i := 218) (by decide +kernel)) (by decide +kernel)
theorem wf_X8_176 : Cond.fieldLink "PictureJoin" 176 "PictureJoin$Album" "joinedCount" "I" ∈ jws := jm (List.mem_of_getElem? (i := 219) (by decide +kernel)) (by decide +kernel)
theorem wf_X0_29 : Cond.fieldLink "PictureJoin$Album" 29 "PictureJoin$Album" "stale" "Z" ∈ jws := jm (List.mem_of_getElem? (i := 220) (by decide +kernel)) (by decide +kernel)
theorem wf_X8_78 : Cond.fieldLink "PictureJoin" 78 "PictureJoin$Album" "stale" "Z" ∈ jws := jm (List.mem_of_getElem? (i := 221) (by decide +kernel)) (by decide +kernel)
theorem wf_X3_21 : Cond.fieldLink "PictureJoin$Overlap" 21 "PictureJoin$Overlap" "x" "I" ∈ jws := jm (List.mem_of_getElem? (i := 241) (by decide +kernel)) (by decide +kernel)
theorem wf_X6_27 : Cond.fieldLink "PictureJoin$Seam" 27 "PictureJoin$Overlap" "x" "I" ∈ jws := jm (List.mem_of_getElem? (i := 242) (by decide +kernel)) (by decide +kernel)
theorem wf_X8_188 : Cond.fieldLink "PictureJoin" 188 "PictureJoin$Overlap" "x" "I" ∈ jws := jm (List.mem_of_getElem? (i := 243) (by decide +kernel)) (by decide +kernel)
theorem wf_X3_27 : Cond.fieldLink "PictureJoin$Overlap" 27 "PictureJoin$Overlap" "y" "I" ∈ jws := jm (List.mem_of_getElem? (i := 244) (by decide +kernel)) (by decide +kernel)
theorem wf_X6_30 : Cond.fieldLink "PictureJoin$Seam" 30 "PictureJoin$Overlap" "y" "I" ∈ jws := jm (List.mem_of_getElem? (i := 245) (by decide +kernel)) (by decide +kernel)
theorem wf_X8_189 : Cond.fieldLink "PictureJoin" 189 "PictureJoin$Overlap" "y" "I" ∈ jws := jm (List.mem_of_getElem? (i := 246) (by decide +kernel)) (by decide +kernel)
theorem wf_X6_18 : Cond.fieldLink "PictureJoin$Seam" 18 "PictureJoin$Overlap" "width" "I" ∈ jws := jm (List.mem_of_getElem? (i := 247) (by decide +kernel)) (by decide +kernel)
theorem wf_X3_33 : Cond.fieldLink "PictureJoin$Overlap" 33 "PictureJoin$Overlap" "width" "I" ∈ jws := jm (List.mem_of_getElem? (i := 248) (by decide +kernel)) (by decide +kernel)
theorem wf_X8_190 : Cond.fieldLink "PictureJoin" 190 "PictureJoin$Overlap" "width" "I" ∈ jws := jm (List.mem_of_getElem? (i := 249) (by decide +kernel)) (by decide +kernel)
theorem wf_X6_24 : Cond.fieldLink "PictureJoin$Seam" 24 "PictureJoin$Overlap" "height" "I" ∈ jws := jm (List.mem_of_getElem? (i := 250) (by decide +kernel)) (by decide +kernel)
theorem wf_X3_36 : Cond.fieldLink "PictureJoin$Overlap" 36 "PictureJoin$Overlap" "height" "I" ∈ jws := jm (List.mem_of_getElem? (i := 251) (by decide +kernel)) (by decide +kernel)
theorem wf_X8_191 : Cond.fieldLink "PictureJoin" 191 "PictureJoin$Overlap" "height" "I" ∈ jws := jm (List.mem_of_getElem? (i := 252) (by decide +kernel)) (by decide +kernel)
theorem wf_X3_43 : Cond.fieldLink "PictureJoin$Overlap" 43 "PictureJoin$Overlap" "firstLight" "I" ∈ jws := jm (List.mem_of_getElem? (i := 253) (by decide +kernel)) (by decide +kernel)
theorem wf_X8_195 : Cond.fieldLink "PictureJoin" 195 "PictureJoin$Overlap" "firstLight" "I" ∈ jws := jm (List.mem_of_getElem? (i := 254) (by decide +kernel)) (by decide +kernel)
theorem wf_X3_46 : Cond.fieldLink "PictureJoin$Overlap" 46 "PictureJoin$Overlap" "secondLight" "I" ∈ jws := jm (List.mem_of_getElem? (i := 255) (by decide +kernel)) (by decide +kernel)
theorem wf_X8_198 : Cond.fieldLink "PictureJoin" 198 "PictureJoin$Overlap" "secondLight" "I" ∈ jws := jm (List.mem_of_getElem? (i := 256) (by decide +kernel)) (by decide +kernel)
theorem wf_X3_49 : Cond.fieldLink "PictureJoin$Overlap" 49 "PictureJoin$Overlap" "bothTold" "I" ∈ jws := jm (List.mem_of_getElem? (i := 257) (by decide +kernel)) (by decide +kernel)
theorem wf_X8_201 : Cond.fieldLink "PictureJoin" 201 "PictureJoin$Overlap" "bothTold" "I" ∈ jws := jm (List.mem_of_getElem? (i := 258) (by decide +kernel)) (by decide +kernel)
theorem wf_X6_9 : Cond.fieldLink "PictureJoin$Seam" 9 "PictureJoin$Seam" "costs" "[I" ∈ jws := jm (List.mem_of_getElem? (i := 280) (by decide +kernel)) (by decide +kernel)
theorem wf_X6_15 : Cond.fieldLink "PictureJoin$Seam" 15 "PictureJoin$Seam" "columns" "[I" ∈ jws := jm (List.mem_of_getElem? (i := 281) (by decide +kernel)) (by decide +kernel)
theorem wf_X8_213 : Cond.fieldLink "PictureJoin" 213 "PictureJoin$Seam" "columns" "[I" ∈ jws := jm (List.mem_of_getElem? (i := 282) (by decide +kernel)) (by decide +kernel)
theorem wf_X6_45 : Cond.fieldLink "PictureJoin$Seam" 45 "PictureJoin$Seam" "cost" "I" ∈ jws := jm (List.mem_of_getElem? (i := 283) (by decide +kernel)) (by decide +kernel)
theorem wf_X8_210 : Cond.fieldLink "PictureJoin" 210 "PictureJoin$Seam" "cost" "I" ∈ jws := jm (List.mem_of_getElem? (i := 284) (by decide +kernel)) (by decide +kernel)
theorem wf_X8_12 : Cond.fieldLink "PictureJoin" 12 "PictureJoin" "world" "LPictureJoin$World;" ∈ jws := jm (List.mem_of_getElem? (i := 292) (by decide +kernel)) (by decide +kernel)
theorem wf_X8_19 : Cond.fieldLink "PictureJoin" 19 "PictureJoin" "album" "LPictureJoin$Album;" ∈ jws := jm (List.mem_of_getElem? (i := 293) (by decide +kernel)) (by decide +kernel)
theorem wf_X8_26 : Cond.fieldLink "PictureJoin" 26 "PictureJoin" "common" "LPictureJoin$Overlap;" ∈ jws := jm (List.mem_of_getElem? (i := 294) (by decide +kernel)) (by decide +kernel)
theorem wf_X8_33 : Cond.fieldLink "PictureJoin" 33 "PictureJoin" "cut" "LPictureJoin$Seam;" ∈ jws := jm (List.mem_of_getElem? (i := 295) (by decide +kernel)) (by decide +kernel)
theorem wf_X8_37 : Cond.fieldLink "PictureJoin" 37 "PictureJoin" "bar" "I" ∈ jws := jm (List.mem_of_getElem? (i := 296) (by decide +kernel)) (by decide +kernel)
theorem wf_X8_41 : Cond.fieldLink "PictureJoin" 41 "PictureJoin" "near" "I" ∈ jws := jm (List.mem_of_getElem? (i := 297) (by decide +kernel)) (by decide +kernel)
theorem wf_X1_44 : Cond.fieldLink "PictureJoin$Dots" 44 "PictureJoin$Dots" "WAYS_X" "[I" ∈ jws := jm (List.mem_of_getElem? (i := 398) (by decide +kernel)) (by decide +kernel)
theorem wf_X1_47 : Cond.fieldLink "PictureJoin$Dots" 47 "PictureJoin$Dots" "WAYS_Y" "[I" ∈ jws := jm (List.mem_of_getElem? (i := 400) (by decide +kernel)) (by decide +kernel)
theorem wf_X9_75 : Cond.fieldLink "PictureJoinModel" 75 "PictureJoinModel" "seed" "I" ∈ jws := jm (List.mem_of_getElem? (i := 634) (by decide +kernel)) (by decide +kernel)
theorem wf_X9_68 : Cond.fieldLink "PictureJoinModel" 68 "PictureJoinModel" "pictures" "I" ∈ jws := jm (List.mem_of_getElem? (i := 635) (by decide +kernel)) (by decide +kernel)
theorem wf_X9_7 : Cond.fieldLink "PictureJoinModel" 7 "PictureJoinModel" "wide" "[I" ∈ jws := jm (List.mem_of_getElem? (i := 636) (by decide +kernel)) (by decide +kernel)
theorem wf_X9_13 : Cond.fieldLink "PictureJoinModel" 13 "PictureJoinModel" "high" "[I" ∈ jws := jm (List.mem_of_getElem? (i := 637) (by decide +kernel)) (by decide +kernel)
theorem wf_X9_16 : Cond.fieldLink "PictureJoinModel" 16 "PictureJoinModel" "dots" "[I" ∈ jws := jm (List.mem_of_getElem? (i := 638) (by decide +kernel)) (by decide +kernel)
theorem wf_X9_19 : Cond.fieldLink "PictureJoinModel" 19 "PictureJoinModel" "bar" "I" ∈ jws := jm (List.mem_of_getElem? (i := 639) (by decide +kernel)) (by decide +kernel)
theorem wf_X9_23 : Cond.fieldLink "PictureJoinModel" 23 "PictureJoinModel" "near" "I" ∈ jws := jm (List.mem_of_getElem? (i := 640) (by decide +kernel)) (by decide +kernel)
theorem wf_X9_86 : Cond.fieldLink "PictureJoinModel" 86 "PictureJoinModel" "isLaid" "Z" ∈ jws := jm (List.mem_of_getElem? (i := 641) (by decide +kernel)) (by decide +kernel)
theorem wf_X9_26 : Cond.fieldLink "PictureJoinModel" 26 "PictureJoinModel" "score" "[I" ∈ jws := jm (List.mem_of_getElem? (i := 642) (by decide +kernel)) (by decide +kernel)
theorem wf_X9_29 : Cond.fieldLink "PictureJoinModel" 29 "PictureJoinModel" "marks" "[I" ∈ jws := jm (List.mem_of_getElem? (i := 643) (by decide +kernel)) (by decide +kernel)
theorem wf_X9_32 : Cond.fieldLink "PictureJoinModel" 32 "PictureJoinModel" "markAt" "[I" ∈ jws := jm (List.mem_of_getElem? (i := 644) (by decide +kernel)) (by decide +kernel)
theorem wf_X9_35 : Cond.fieldLink "PictureJoinModel" 35 "PictureJoinModel" "sign" "[I" ∈ jws := jm (List.mem_of_getElem? (i := 645) (by decide +kernel)) (by decide +kernel)
theorem wf_X9_38 : Cond.fieldLink "PictureJoinModel" 38 "PictureJoinModel" "match" "[I" ∈ jws := jm (List.mem_of_getElem? (i := 646) (by decide +kernel)) (by decide +kernel)
theorem wf_X9_41 : Cond.fieldLink "PictureJoinModel" 41 "PictureJoinModel" "shiftX" "[I" ∈ jws := jm (List.mem_of_getElem? (i := 647) (by decide +kernel)) (by decide +kernel)
theorem wf_X9_44 : Cond.fieldLink "PictureJoinModel" 44 "PictureJoinModel" "shiftY" "[I" ∈ jws := jm (List.mem_of_getElem? (i := 648) (by decide +kernel)) (by decide +kernel)
theorem wf_X9_47 : Cond.fieldLink "PictureJoinModel" 47 "PictureJoinModel" "votes" "[I" ∈ jws := jm (List.mem_of_getElem? (i := 649) (by decide +kernel)) (by decide +kernel)
theorem wf_X9_50 : Cond.fieldLink "PictureJoinModel" 50 "PictureJoinModel" "matches" "[I" ∈ jws := jm (List.mem_of_getElem? (i := 650) (by decide +kernel)) (by decide +kernel)
theorem wf_X9_137 : Cond.fieldLink "PictureJoinModel" 137 "PictureJoinModel" "joined" "I" ∈ jws := jm (List.mem_of_getElem? (i := 651) (by decide +kernel)) (by decide +kernel)
theorem wf_X9_53 : Cond.fieldLink "PictureJoinModel" 53 "PictureJoinModel" "placeX" "[I" ∈ jws := jm (List.mem_of_getElem? (i := 652) (by decide +kernel)) (by decide +kernel)
theorem wf_X9_56 : Cond.fieldLink "PictureJoinModel" 56 "PictureJoinModel" "placeY" "[I" ∈ jws := jm (List.mem_of_getElem? (i := 653) (by decide +kernel)) (by decide +kernel)
theorem wf_X9_59 : Cond.fieldLink "PictureJoinModel" 59 "PictureJoinModel" "by" "[I" ∈ jws := jm (List.mem_of_getElem? (i := 654) (by decide +kernel)) (by decide +kernel)
theorem wf_X9_62 : Cond.fieldLink "PictureJoinModel" 62 "PictureJoinModel" "order" "[I" ∈ jws := jm (List.mem_of_getElem? (i := 655) (by decide +kernel)) (by decide +kernel)
theorem wf_X9_161 : Cond.fieldLink "PictureJoinModel" 161 "PictureJoinModel" "overX" "I" ∈ jws := jm (List.mem_of_getElem? (i := 656) (by decide +kernel)) (by decide +kernel)
theorem wf_X9_164 : Cond.fieldLink "PictureJoinModel" 164 "PictureJoinModel" "overY" "I" ∈ jws := jm (List.mem_of_getElem? (i := 657) (by decide +kernel)) (by decide +kernel)
theorem wf_X9_167 : Cond.fieldLink "PictureJoinModel" 167 "PictureJoinModel" "overWide" "I" ∈ jws := jm (List.mem_of_getElem? (i := 658) (by decide +kernel)) (by decide +kernel)
theorem wf_X9_170 : Cond.fieldLink "PictureJoinModel" 170 "PictureJoinModel" "overHigh" "I" ∈ jws := jm (List.mem_of_getElem? (i := 659) (by decide +kernel)) (by decide +kernel)
theorem wf_X9_65 : Cond.fieldLink "PictureJoinModel" 65 "PictureJoinModel" "least" "[I" ∈ jws := jm (List.mem_of_getElem? (i := 660) (by decide +kernel)) (by decide +kernel)
theorem wm_L_9 : Cond.methodLink "PictureJoinLaw" 9 ⟨"PictureJoin", "<init>", "()V"⟩ ∈ jws := jm (List.mem_of_getElem? (i := 57) (by decide +kernel)) (by decide +kernel)
theorem wm_X8_3 : Cond.methodLink "PictureJoin" 3 ⟨"java/lang/Object", "<init>", "()V"⟩ ∈ jws := jm (List.mem_of_getElem? (i := 60) (by decide +kernel)) (by decide +kernel)
theorem wm_X7_3 : Cond.methodLink "PictureJoin$World" 3 ⟨"java/lang/Object", "<init>", "()V"⟩ ∈ jws := jm (List.mem_of_getElem? (i := 68) (by decide +kernel)) (by decide +kernel)
theorem wm_X8_18 : Cond.methodLink "PictureJoin" 18 ⟨"PictureJoin$Album", "<init>", "()V"⟩ ∈ jws := jm (List.mem_of_getElem? (i := 76) (by decide +kernel)) (by decide +kernel)
theorem wm_X0_3 : Cond.methodLink "PictureJoin$Album" 3 ⟨"java/lang/Object", "<init>", "()V"⟩ ∈ jws := jm (List.mem_of_getElem? (i := 79) (by decide +kernel)) (by decide +kernel)
theorem wm_X5_3 : Cond.methodLink "PictureJoin$Picture" 3 ⟨"java/lang/Object", "<init>", "()V"⟩ ∈ jws := jm (List.mem_of_getElem? (i := 88) (by decide +kernel)) (by decide +kernel)
theorem wm_X1_3 : Cond.methodLink "PictureJoin$Dots" 3 ⟨"java/lang/Object", "<init>", "()V"⟩ ∈ jws := jm (List.mem_of_getElem? (i := 94) (by decide +kernel)) (by decide +kernel)
theorem wm_X2_3 : Cond.methodLink "PictureJoin$Marks" 3 ⟨"java/lang/Object", "<init>", "()V"⟩ ∈ jws := jm (List.mem_of_getElem? (i := 127) (by decide +kernel)) (by decide +kernel)
theorem wm_X4_3 : Cond.methodLink "PictureJoin$Pairing" 3 ⟨"java/lang/Object", "<init>", "()V"⟩ ∈ jws := jm (List.mem_of_getElem? (i := 187) (by decide +kernel)) (by decide +kernel)
theorem wm_X3_3 : Cond.methodLink "PictureJoin$Overlap" 3 ⟨"java/lang/Object", "<init>", "()V"⟩ ∈ jws := jm (List.mem_of_getElem? (i := 240) (by decide +kernel)) (by decide +kernel)
theorem wm_X6_3 : Cond.methodLink "PictureJoin$Seam" 3 ⟨"java/lang/Object", "<init>", "()V"⟩ ∈ jws := jm (List.mem_of_getElem? (i := 279) (by decide +kernel)) (by decide +kernel)
theorem wm_L_13 : Cond.methodLink "PictureJoinLaw" 13 ⟨"PictureJoin", "seed", "(I)I"⟩ ∈ jws := jm (List.mem_of_getElem? (i := 311) (by decide +kernel)) (by decide +kernel)
theorem wm_L_18 : Cond.methodLink "PictureJoinLaw" 18 ⟨"PictureJoin", "light", "(II)I"⟩ ∈ jws := jm (List.mem_of_getElem? (i := 315) (by decide +kernel)) (by decide +kernel)
theorem wm_X8_47 : Cond.methodLink "PictureJoin" 47 ⟨"PictureJoin", "within", "(III)Z"⟩ ∈ jws := jm (List.mem_of_getElem? (i := 319) (by decide +kernel)) (by decide +kernel)
theorem wm_X8_51 : Cond.methodLink "PictureJoin" 51 ⟨"PictureJoin$World", "lightAt", "(II)I"⟩ ∈ jws := jm (List.mem_of_getElem? (i := 322) (by decide +kernel)) (by decide +kernel)
theorem wm_L_23 : Cond.methodLink "PictureJoinLaw" 23 ⟨"PictureJoin", "shoot", "(IIIII)I"⟩ ∈ jws := jm (List.mem_of_getElem? (i := 330) (by decide +kernel)) (by decide +kernel)
theorem wm_X8_68 : Cond.methodLink "PictureJoin" 68 ⟨"PictureJoin$Dots", "resize", "(II)V"⟩ ∈ jws := jm (List.mem_of_getElem? (i := 334) (by decide +kernel)) (by decide +kernel)
theorem wm_X1_18 : Cond.methodLink "PictureJoin$Dots" 18 ⟨"java/lang/Math", "min", "(II)I"⟩ ∈ jws := jm (List.mem_of_getElem? (i := 338) (by decide +kernel)) (by decide +kernel)
theorem wm_X8_74 : Cond.methodLink "PictureJoin" 74 ⟨"PictureJoin$World", "shootInto", "(LPictureJoin$Dots;III)V"⟩ ∈ jws := jm (List.mem_of_getElem? (i := 341) (by decide +kernel)) (by decide +kernel)
theorem wm_X7_27 : Cond.methodLink "PictureJoin$World" 27 ⟨"PictureJoin$World", "lightAt", "(II)I"⟩ ∈ jws := jm (List.mem_of_getElem? (i := 345) (by decide +kernel)) (by decide +kernel)
theorem wm_X7_31 : Cond.methodLink "PictureJoin$World" 31 ⟨"java/lang/Math", "min", "(II)I"⟩ ∈ jws := jm (List.mem_of_getElem? (i := 346) (by decide +kernel)) (by decide +kernel)
theorem wm_X7_36 : Cond.methodLink "PictureJoin$World" 36 ⟨"PictureJoin$Dots", "put", "(III)V"⟩ ∈ jws := jm (List.mem_of_getElem? (i := 347) (by decide +kernel)) (by decide +kernel)
theorem wm_X1_35 : Cond.methodLink "PictureJoin$Dots" 35 ⟨"PictureJoin$Dots", "has", "(II)Z"⟩ ∈ jws := jm (List.mem_of_getElem? (i := 351) (by decide +kernel)) (by decide +kernel)
theorem wm_L_28 : Cond.methodLink "PictureJoinLaw" 28 ⟨"PictureJoin", "clear", "()I"⟩ ∈ jws := jm (List.mem_of_getElem? (i := 355) (by decide +kernel)) (by decide +kernel)
theorem wm_L_33 : Cond.methodLink "PictureJoinLaw" 33 ⟨"PictureJoin", "dot", "(IIII)I"⟩ ∈ jws := jm (List.mem_of_getElem? (i := 359) (by decide +kernel)) (by decide +kernel)
theorem wm_X8_82 : Cond.methodLink "PictureJoin" 82 ⟨"PictureJoin", "isDot", "(III)Z"⟩ ∈ jws := jm (List.mem_of_getElem? (i := 363) (by decide +kernel)) (by decide +kernel)
theorem wm_X8_98 : Cond.methodLink "PictureJoin" 98 ⟨"PictureJoin", "isPicture", "(I)Z"⟩ ∈ jws := jm (List.mem_of_getElem? (i := 367) (by decide +kernel)) (by decide +kernel)
theorem wm_X8_227 : Cond.methodLink "PictureJoin" 227 ⟨"PictureJoin$Dots", "has", "(II)Z"⟩ ∈ jws := jm (List.mem_of_getElem? (i := 371) (by decide +kernel)) (by decide +kernel)
theorem wm_X8_87 : Cond.methodLink "PictureJoin" 87 ⟨"PictureJoin$Dots", "get", "(II)I"⟩ ∈ jws := jm (List.mem_of_getElem? (i := 374) (by decide +kernel)) (by decide +kernel)
theorem wm_X8_90 : Cond.methodLink "PictureJoin" 90 ⟨"PictureJoin$Dots", "put", "(III)V"⟩ ∈ jws := jm (List.mem_of_getElem? (i := 378) (by decide +kernel)) (by decide +kernel)
theorem wm_L_38 : Cond.methodLink "PictureJoinLaw" 38 ⟨"PictureJoin", "at", "(III)I"⟩ ∈ jws := jm (List.mem_of_getElem? (i := 379) (by decide +kernel)) (by decide +kernel)
theorem wm_L_43 : Cond.methodLink "PictureJoinLaw" 43 ⟨"PictureJoin", "rules", "(II)I"⟩ ∈ jws := jm (List.mem_of_getElem? (i := 383) (by decide +kernel)) (by decide +kernel)
theorem wm_L_47 : Cond.methodLink "PictureJoinLaw" 47 ⟨"PictureJoin", "score", "(III)I"⟩ ∈ jws := jm (List.mem_of_getElem? (i := 388) (by decide +kernel)) (by decide +kernel)
theorem wm_X8_95 : Cond.methodLink "PictureJoin" 95 ⟨"PictureJoin$Dots", "scoreOf", "(II)I"⟩ ∈ jws := jm (List.mem_of_getElem? (i := 392) (by decide +kernel)) (by decide +kernel)
theorem wm_X1_50 : Cond.methodLink "PictureJoin$Dots" 50 ⟨"PictureJoin$Dots", "changeAbout", "(IIII)I"⟩ ∈ jws := jm (List.mem_of_getElem? (i := 402) (by decide +kernel)) (by decide +kernel)
theorem wm_X1_54 : Cond.methodLink "PictureJoin$Dots" 54 ⟨"PictureJoin$Dots", "get", "(II)I"⟩ ∈ jws := jm (List.mem_of_getElem? (i := 406) (by decide +kernel)) (by decide +kernel)
theorem wm_L_51 : Cond.methodLink "PictureJoinLaw" 51 ⟨"PictureJoin", "marks", "(I)I"⟩ ∈ jws := jm (List.mem_of_getElem? (i := 407) (by decide +kernel)) (by decide +kernel)
theorem wm_X8_102 : Cond.methodLink "PictureJoin" 102 ⟨"PictureJoin$Album", "settle", "(II)V"⟩ ∈ jws := jm (List.mem_of_getElem? (i := 411) (by decide +kernel)) (by decide +kernel)
theorem wm_X0_41 : Cond.methodLink "PictureJoin$Album" 41 ⟨"PictureJoin$Dots", "scoreAll", "()V"⟩ ∈ jws := jm (List.mem_of_getElem? (i := 415) (by decide +kernel)) (by decide +kernel)
theorem wm_X1_57 : Cond.methodLink "PictureJoin$Dots" 57 ⟨"PictureJoin$Dots", "scoreOf", "(II)I"⟩ ∈ jws := jm (List.mem_of_getElem? (i := 419) (by decide +kernel)) (by decide +kernel)
theorem wm_X0_50 : Cond.methodLink "PictureJoin$Album" 50 ⟨"PictureJoin$Marks", "find", "(LPictureJoin$Dots;I)V"⟩ ∈ jws := jm (List.mem_of_getElem? (i := 420) (by decide +kernel)) (by decide +kernel)
theorem wm_X2_36 : Cond.methodLink "PictureJoin$Marks" 36 ⟨"PictureJoin$Dots", "keptScore", "(II)I"⟩ ∈ jws := jm (List.mem_of_getElem? (i := 424) (by decide +kernel)) (by decide +kernel)
theorem wm_X2_40 : Cond.methodLink "PictureJoin$Marks" 40 ⟨"PictureJoin$Dots", "isPeak", "(II)Z"⟩ ∈ jws := jm (List.mem_of_getElem? (i := 428) (by decide +kernel)) (by decide +kernel)
theorem wm_X1_60 : Cond.methodLink "PictureJoin$Dots" 60 ⟨"PictureJoin$Dots", "keptScore", "(II)I"⟩ ∈ jws := jm (List.mem_of_getElem? (i := 432) (by decide +kernel)) (by decide +kernel)
theorem wm_X2_44 : Cond.methodLink "PictureJoin$Marks" 44 ⟨"PictureJoin$Marks", "insert", "(III)V"⟩ ∈ jws := jm (List.mem_of_getElem? (i := 433) (by decide +kernel)) (by decide +kernel)
theorem wm_X2_51 : Cond.methodLink "PictureJoin$Marks" 51 ⟨"java/lang/Math", "min", "(II)I"⟩ ∈ jws := jm (List.mem_of_getElem? (i := 437) (by decide +kernel)) (by decide +kernel)
theorem wm_X2_48 : Cond.methodLink "PictureJoin$Marks" 48 ⟨"PictureJoin$Dots", "signOf", "(II)I"⟩ ∈ jws := jm (List.mem_of_getElem? (i := 438) (by decide +kernel)) (by decide +kernel)
theorem wm_X0_56 : Cond.methodLink "PictureJoin$Album" 56 ⟨"PictureJoin$Album", "pairingOf", "(II)LPictureJoin$Pairing;"⟩ ∈ jws := jm (List.mem_of_getElem? (i := 442) (by decide +kernel)) (by decide +kernel)
theorem wm_X0_60 : Cond.methodLink "PictureJoin$Album" 60 ⟨"PictureJoin$Pairing", "find", "(LPictureJoin$Marks;LPictureJoin$Marks;I)V"⟩ ∈ jws := jm (List.mem_of_getElem? (i := 446) (by decide +kernel)) (by decide +kernel)
theorem wm_X4_24 : Cond.methodLink "PictureJoin$Pairing" 24 ⟨"PictureJoin$Pairing", "partnerOf", "(LPictureJoin$Marks;ILPictureJoin$Marks;I)I"⟩ ∈ jws := jm (List.mem_of_getElem? (i := 450) (by decide +kernel)) (by decide +kernel)
theorem wm_X4_45 : Cond.methodLink "PictureJoin$Pairing" 45 ⟨"PictureJoin$Marks", "nearestTo", "(I)I"⟩ ∈ jws := jm (List.mem_of_getElem? (i := 453) (by decide +kernel)) (by decide +kernel)
theorem wm_X2_56 : Cond.methodLink "PictureJoin$Marks" 56 ⟨"java/lang/Integer", "bitCount", "(I)I"⟩ ∈ jws := jm (List.mem_of_getElem? (i := 457) (by decide +kernel)) (by decide +kernel)
theorem wm_X4_49 : Cond.methodLink "PictureJoin$Pairing" 49 ⟨"java/lang/Integer", "bitCount", "(I)I"⟩ ∈ jws := jm (List.mem_of_getElem? (i := 463) (by decide +kernel)) (by decide +kernel)
theorem wm_X4_31 : Cond.methodLink "PictureJoin$Pairing" 31 ⟨"PictureJoin$Pairing", "shiftX", "(LPictureJoin$Marks;ILPictureJoin$Marks;)I"⟩ ∈ jws := jm (List.mem_of_getElem? (i := 464) (by decide +kernel)) (by decide +kernel)
theorem wm_X4_35 : Cond.methodLink "PictureJoin$Pairing" 35 ⟨"PictureJoin$Pairing", "shiftY", "(LPictureJoin$Marks;ILPictureJoin$Marks;)I"⟩ ∈ jws := jm (List.mem_of_getElem? (i := 468) (by decide +kernel)) (by decide +kernel)
theorem wm_X4_38 : Cond.methodLink "PictureJoin$Pairing" 38 ⟨"PictureJoin$Pairing", "propose", "(LPictureJoin$Marks;LPictureJoin$Marks;II)V"⟩ ∈ jws := jm (List.mem_of_getElem? (i := 472) (by decide +kernel)) (by decide +kernel)
theorem wm_X0_63 : Cond.methodLink "PictureJoin$Album" 63 ⟨"PictureJoin$Album", "joinAll", "()V"⟩ ∈ jws := jm (List.mem_of_getElem? (i := 476) (by decide +kernel)) (by decide +kernel)
theorem wm_X0_72 : Cond.methodLink "PictureJoin$Album" 72 ⟨"PictureJoin$Album", "put", "(IIII)V"⟩ ∈ jws := jm (List.mem_of_getElem? (i := 480) (by decide +kernel)) (by decide +kernel)
theorem wm_X0_76 : Cond.methodLink "PictureJoin$Album" 76 ⟨"PictureJoin$Album", "bestPair", "()I"⟩ ∈ jws := jm (List.mem_of_getElem? (i := 484) (by decide +kernel)) (by decide +kernel)
theorem wm_X0_91 : Cond.methodLink "PictureJoin$Album" 91 ⟨"PictureJoin$Picture", "isJoined", "()Z"⟩ ∈ jws := jm (List.mem_of_getElem? (i := 488) (by decide +kernel)) (by decide +kernel)
theorem wm_L_55 : Cond.methodLink "PictureJoinLaw" 55 ⟨"PictureJoin", "mark", "(III)I"⟩ ∈ jws := jm (List.mem_of_getElem? (i := 492) (by decide +kernel)) (by decide +kernel)
theorem wm_X8_112 : Cond.methodLink "PictureJoin" 112 ⟨"PictureJoin", "isMark", "(II)Z"⟩ ∈ jws := jm (List.mem_of_getElem? (i := 496) (by decide +kernel)) (by decide +kernel)
theorem wm_L_59 : Cond.methodLink "PictureJoinLaw" 59 ⟨"PictureJoin", "match", "(III)I"⟩ ∈ jws := jm (List.mem_of_getElem? (i := 500) (by decide +kernel)) (by decide +kernel)
theorem wm_X8_129 : Cond.methodLink "PictureJoin" 129 ⟨"PictureJoin", "areTwo", "(II)Z"⟩ ∈ jws := jm (List.mem_of_getElem? (i := 504) (by decide +kernel)) (by decide +kernel)
theorem wm_X8_132 : Cond.methodLink "PictureJoin" 132 ⟨"PictureJoin$Album", "pairingOf", "(II)LPictureJoin$Pairing;"⟩ ∈ jws := jm (List.mem_of_getElem? (i := 508) (by decide +kernel)) (by decide +kernel)
theorem wm_L_63 : Cond.methodLink "PictureJoinLaw" 63 ⟨"PictureJoin", "shift", "(III)I"⟩ ∈ jws := jm (List.mem_of_getElem? (i := 509) (by decide +kernel)) (by decide +kernel)
theorem wm_L_67 : Cond.methodLink "PictureJoinLaw" 67 ⟨"PictureJoin", "place", "(II)I"⟩ ∈ jws := jm (List.mem_of_getElem? (i := 514) (by decide +kernel)) (by decide +kernel)
theorem wm_X8_160 : Cond.methodLink "PictureJoin" 160 ⟨"PictureJoin$Picture", "isJoined", "()Z"⟩ ∈ jws := jm (List.mem_of_getElem? (i := 518) (by decide +kernel)) (by decide +kernel)
theorem wm_L_71 : Cond.methodLink "PictureJoinLaw" 71 ⟨"PictureJoin", "open", "()I"⟩ ∈ jws := jm (List.mem_of_getElem? (i := 519) (by decide +kernel)) (by decide +kernel)
theorem wm_X8_172 : Cond.methodLink "PictureJoin" 172 ⟨"PictureJoin$Album", "countOpen", "()I"⟩ ∈ jws := jm (List.mem_of_getElem? (i := 523) (by decide +kernel)) (by decide +kernel)
theorem wm_X0_98 : Cond.methodLink "PictureJoin$Album" 98 ⟨"PictureJoin$Album", "isOpen", "(II)Z"⟩ ∈ jws := jm (List.mem_of_getElem? (i := 527) (by decide +kernel)) (by decide +kernel)
theorem wm_L_75 : Cond.methodLink "PictureJoinLaw" 75 ⟨"PictureJoin", "joined", "()I"⟩ ∈ jws := jm (List.mem_of_getElem? (i := 531) (by decide +kernel)) (by decide +kernel)
theorem wm_L_79 : Cond.methodLink "PictureJoinLaw" 79 ⟨"PictureJoin", "overlap", "(III)I"⟩ ∈ jws := jm (List.mem_of_getElem? (i := 535) (by decide +kernel)) (by decide +kernel)
theorem wm_X8_179 : Cond.methodLink "PictureJoin" 179 ⟨"PictureJoin", "refusalOfTwo", "(IIZ)I"⟩ ∈ jws := jm (List.mem_of_getElem? (i := 539) (by decide +kernel)) (by decide +kernel)
theorem wm_X8_184 : Cond.methodLink "PictureJoin" 184 ⟨"PictureJoin$Overlap", "find", "(LPictureJoin$Picture;LPictureJoin$Picture;)V"⟩ ∈ jws := jm (List.mem_of_getElem? (i := 544) (by decide +kernel)) (by decide +kernel)
theorem wm_X3_9 : Cond.methodLink "PictureJoin$Overlap" 9 ⟨"PictureJoin$Picture", "edge", "(I)I"⟩ ∈ jws := jm (List.mem_of_getElem? (i := 548) (by decide +kernel)) (by decide +kernel)
theorem wm_X3_15 : Cond.methodLink "PictureJoin$Overlap" 15 ⟨"java/lang/Math", "max", "(II)I"⟩ ∈ jws := jm (List.mem_of_getElem? (i := 552) (by decide +kernel)) (by decide +kernel)
theorem wm_X3_30 : Cond.methodLink "PictureJoin$Overlap" 30 ⟨"java/lang/Math", "min", "(II)I"⟩ ∈ jws := jm (List.mem_of_getElem? (i := 555) (by decide +kernel)) (by decide +kernel)
theorem wm_X3_39 : Cond.methodLink "PictureJoin$Overlap" 39 ⟨"PictureJoin$Overlap", "isThere", "()Z"⟩ ∈ jws := jm (List.mem_of_getElem? (i := 556) (by decide +kernel)) (by decide +kernel)
theorem wm_L_83 : Cond.methodLink "PictureJoinLaw" 83 ⟨"PictureJoin", "lights", "(III)I"⟩ ∈ jws := jm (List.mem_of_getElem? (i := 560) (by decide +kernel)) (by decide +kernel)
theorem wm_X8_192 : Cond.methodLink "PictureJoin" 192 ⟨"PictureJoin$Overlap", "compare", "(LPictureJoin$Picture;LPictureJoin$Picture;)V"⟩ ∈ jws := jm (List.mem_of_getElem? (i := 564) (by decide +kernel)) (by decide +kernel)
theorem wm_X3_52 : Cond.methodLink "PictureJoin$Overlap" 52 ⟨"PictureJoin$Picture", "dotAt", "(II)I"⟩ ∈ jws := jm (List.mem_of_getElem? (i := 568) (by decide +kernel)) (by decide +kernel)
theorem wm_X5_35 : Cond.methodLink "PictureJoin$Picture" 35 ⟨"PictureJoin$Dots", "get", "(II)I"⟩ ∈ jws := jm (List.mem_of_getElem? (i := 572) (by decide +kernel)) (by decide +kernel)
theorem wm_L_87 : Cond.methodLink "PictureJoinLaw" 87 ⟨"PictureJoin", "seam", "(III)I"⟩ ∈ jws := jm (List.mem_of_getElem? (i := 573) (by decide +kernel)) (by decide +kernel)
theorem wm_X8_204 : Cond.methodLink "PictureJoin" 204 ⟨"PictureJoin$Overlap", "isThere", "()Z"⟩ ∈ jws := jm (List.mem_of_getElem? (i := 577) (by decide +kernel)) (by decide +kernel)
theorem wm_X8_207 : Cond.methodLink "PictureJoin" 207 ⟨"PictureJoin$Seam", "find", "(LPictureJoin$Overlap;LPictureJoin$Picture;LPictureJoin$Picture;)V"⟩ ∈ jws := jm (List.mem_of_getElem? (i := 578) (by decide +kernel)) (by decide +kernel)
theorem wm_X6_33 : Cond.methodLink "PictureJoin$Seam" 33 ⟨"PictureJoin$Seam", "unlikeness", "(LPictureJoin$Picture;LPictureJoin$Picture;II)I"⟩ ∈ jws := jm (List.mem_of_getElem? (i := 582) (by decide +kernel)) (by decide +kernel)
theorem wm_X6_48 : Cond.methodLink "PictureJoin$Seam" 48 ⟨"PictureJoin$Picture", "dotAt", "(II)I"⟩ ∈ jws := jm (List.mem_of_getElem? (i := 585) (by decide +kernel)) (by decide +kernel)
theorem wm_X6_53 : Cond.methodLink "PictureJoin$Seam" 53 ⟨"java/lang/Math", "abs", "(I)I"⟩ ∈ jws := jm (List.mem_of_getElem? (i := 586) (by decide +kernel)) (by decide +kernel)
theorem wm_X6_37 : Cond.methodLink "PictureJoin$Seam" 37 ⟨"PictureJoin$Seam", "cheapest", "(IIII)I"⟩ ∈ jws := jm (List.mem_of_getElem? (i := 589) (by decide +kernel)) (by decide +kernel)
theorem wm_X6_59 : Cond.methodLink "PictureJoin$Seam" 59 ⟨"java/lang/Math", "max", "(II)I"⟩ ∈ jws := jm (List.mem_of_getElem? (i := 593) (by decide +kernel)) (by decide +kernel)
theorem wm_X6_41 : Cond.methodLink "PictureJoin$Seam" 41 ⟨"PictureJoin$Seam", "costAt", "(II)I"⟩ ∈ jws := jm (List.mem_of_getElem? (i := 594) (by decide +kernel)) (by decide +kernel)
theorem wm_L_91 : Cond.methodLink "PictureJoinLaw" 91 ⟨"PictureJoin", "whole", "(III)I"⟩ ∈ jws := jm (List.mem_of_getElem? (i := 598) (by decide +kernel)) (by decide +kernel)
theorem wm_X8_214 : Cond.methodLink "PictureJoin" 214 ⟨"PictureJoin$Album", "firstAt", "(II)I"⟩ ∈ jws := jm (List.mem_of_getElem? (i := 602) (by decide +kernel)) (by decide +kernel)
theorem wm_X0_102 : Cond.methodLink "PictureJoin$Album" 102 ⟨"PictureJoin$Picture", "dotAt", "(II)I"⟩ ∈ jws := jm (List.mem_of_getElem? (i := 606) (by decide +kernel)) (by decide +kernel)
theorem wm_X8_217 : Cond.methodLink "PictureJoin" 217 ⟨"PictureJoin$Picture", "dotAt", "(II)I"⟩ ∈ jws := jm (List.mem_of_getElem? (i := 607) (by decide +kernel)) (by decide +kernel)
theorem wm_L_95 : Cond.methodLink "PictureJoinLaw" 95 ⟨"PictureJoin", "extent", "(I)I"⟩ ∈ jws := jm (List.mem_of_getElem? (i := 608) (by decide +kernel)) (by decide +kernel)
theorem wm_X8_220 : Cond.methodLink "PictureJoin" 220 ⟨"PictureJoin$Album", "countPlaces", "()I"⟩ ∈ jws := jm (List.mem_of_getElem? (i := 612) (by decide +kernel)) (by decide +kernel)
theorem wm_X0_124 : Cond.methodLink "PictureJoin$Album" 124 ⟨"PictureJoin$Album", "firstAt", "(II)I"⟩ ∈ jws := jm (List.mem_of_getElem? (i := 616) (by decide +kernel)) (by decide +kernel)
theorem wm_X8_223 : Cond.methodLink "PictureJoin" 223 ⟨"PictureJoin$Album", "edge", "(I)I"⟩ ∈ jws := jm (List.mem_of_getElem? (i := 617) (by decide +kernel)) (by decide +kernel)
theorem wm_X0_106 : Cond.methodLink "PictureJoin$Album" 106 ⟨"PictureJoin$Picture", "edge", "(I)I"⟩ ∈ jws := jm (List.mem_of_getElem? (i := 621) (by decide +kernel)) (by decide +kernel)
theorem wm_X0_110 : Cond.methodLink "PictureJoin$Album" 110 ⟨"java/lang/Math", "min", "(II)I"⟩ ∈ jws := jm (List.mem_of_getElem? (i := 622) (by decide +kernel)) (by decide +kernel)
theorem wm_X0_115 : Cond.methodLink "PictureJoin$Album" 115 ⟨"java/lang/Math", "max", "(II)I"⟩ ∈ jws := jm (List.mem_of_getElem? (i := 623) (by decide +kernel)) (by decide +kernel)
theorem wm_L_99 : Cond.methodLink "PictureJoinLaw" 99 ⟨"PictureJoin", "told", "(I)I"⟩ ∈ jws := jm (List.mem_of_getElem? (i := 624) (by decide +kernel)) (by decide +kernel)
theorem wm_L_12 : Cond.methodLink "PictureJoinLaw" 12 ⟨"PictureJoinModel", "<init>", "()V"⟩ ∈ jws := jm (List.mem_of_getElem? (i := 630) (by decide +kernel)) (by decide +kernel)
theorem wm_X9_1 : Cond.methodLink "PictureJoinModel" 1 ⟨"java/lang/Object", "<init>", "()V"⟩ ∈ jws := jm (List.mem_of_getElem? (i := 633) (by decide +kernel)) (by decide +kernel)
theorem wm_L_17 : Cond.methodLink "PictureJoinLaw" 17 ⟨"PictureJoinModel", "seed", "(I)I"⟩ ∈ jws := jm (List.mem_of_getElem? (i := 716) (by decide +kernel)) (by decide +kernel)
theorem wm_L_22 : Cond.methodLink "PictureJoinLaw" 22 ⟨"PictureJoinModel", "light", "(II)I"⟩ ∈ jws := jm (List.mem_of_getElem? (i := 720) (by decide +kernel)) (by decide +kernel)
theorem wm_X9_71 : Cond.methodLink "PictureJoinModel" 71 ⟨"PictureJoinModel", "in", "(III)Z"⟩ ∈ jws := jm (List.mem_of_getElem? (i := 724) (by decide +kernel)) (by decide +kernel)
theorem wm_X9_82 : Cond.methodLink "PictureJoinModel" 82 ⟨"PictureJoinModel", "lightAt", "(II)I"⟩ ∈ jws := jm (List.mem_of_getElem? (i := 727) (by decide +kernel)) (by decide +kernel)
theorem wm_L_27 : Cond.methodLink "PictureJoinLaw" 27 ⟨"PictureJoinModel", "shoot", "(IIIII)I"⟩ ∈ jws := jm (List.mem_of_getElem? (i := 735) (by decide +kernel)) (by decide +kernel)
theorem wm_L_32 : Cond.methodLink "PictureJoinLaw" 32 ⟨"PictureJoinModel", "clear", "()I"⟩ ∈ jws := jm (List.mem_of_getElem? (i := 739) (by decide +kernel)) (by decide +kernel)
theorem wm_L_37 : Cond.methodLink "PictureJoinLaw" 37 ⟨"PictureJoinModel", "dot", "(IIII)I"⟩ ∈ jws := jm (List.mem_of_getElem? (i := 743) (by decide +kernel)) (by decide +kernel)
theorem wm_X9_94 : Cond.methodLink "PictureJoinModel" 94 ⟨"PictureJoinModel", "isDot", "(III)Z"⟩ ∈ jws := jm (List.mem_of_getElem? (i := 747) (by decide +kernel)) (by decide +kernel)
theorem wm_X9_90 : Cond.methodLink "PictureJoinModel" 90 ⟨"PictureJoinModel", "isPicture", "(I)Z"⟩ ∈ jws := jm (List.mem_of_getElem? (i := 751) (by decide +kernel)) (by decide +kernel)
theorem wm_X9_99 : Cond.methodLink "PictureJoinModel" 99 ⟨"PictureJoinModel", "dotAt", "(III)I"⟩ ∈ jws := jm (List.mem_of_getElem? (i := 757) (by decide +kernel)) (by decide +kernel)
theorem wm_L_42 : Cond.methodLink "PictureJoinLaw" 42 ⟨"PictureJoinModel", "at", "(III)I"⟩ ∈ jws := jm (List.mem_of_getElem? (i := 761) (by decide +kernel)) (by decide +kernel)
theorem wm_L_46 : Cond.methodLink "PictureJoinLaw" 46 ⟨"PictureJoinModel", "rules", "(II)I"⟩ ∈ jws := jm (List.mem_of_getElem? (i := 765) (by decide +kernel)) (by decide +kernel)
theorem wm_L_50 : Cond.methodLink "PictureJoinLaw" 50 ⟨"PictureJoinModel", "score", "(III)I"⟩ ∈ jws := jm (List.mem_of_getElem? (i := 770) (by decide +kernel)) (by decide +kernel)
theorem wm_X9_104 : Cond.methodLink "PictureJoinModel" 104 ⟨"PictureJoinModel", "scoreOf", "(III)I"⟩ ∈ jws := jm (List.mem_of_getElem? (i := 774) (by decide +kernel)) (by decide +kernel)
theorem wm_L_54 : Cond.methodLink "PictureJoinLaw" 54 ⟨"PictureJoinModel", "marks", "(I)I"⟩ ∈ jws := jm (List.mem_of_getElem? (i := 778) (by decide +kernel)) (by decide +kernel)
theorem wm_X9_150 : Cond.methodLink "PictureJoinModel" 150 ⟨"PictureJoinModel", "lay", "()V"⟩ ∈ jws := jm (List.mem_of_getElem? (i := 782) (by decide +kernel)) (by decide +kernel)
theorem wm_X9_140 : Cond.methodLink "PictureJoinModel" 140 ⟨"PictureJoinModel", "layMarks", "(I)V"⟩ ∈ jws := jm (List.mem_of_getElem? (i := 786) (by decide +kernel)) (by decide +kernel)
theorem wm_X9_107 : Cond.methodLink "PictureJoinModel" 107 ⟨"PictureJoinModel", "isMark", "(III)Z"⟩ ∈ jws := jm (List.mem_of_getElem? (i := 790) (by decide +kernel)) (by decide +kernel)
theorem wm_X9_110 : Cond.methodLink "PictureJoinModel" 110 ⟨"PictureJoinModel", "putMark", "(II)V"⟩ ∈ jws := jm (List.mem_of_getElem? (i := 794) (by decide +kernel)) (by decide +kernel)
theorem wm_X9_114 : Cond.methodLink "PictureJoinModel" 114 ⟨"PictureJoinModel", "signOf", "(III)I"⟩ ∈ jws := jm (List.mem_of_getElem? (i := 798) (by decide +kernel)) (by decide +kernel)
theorem wm_X9_144 : Cond.methodLink "PictureJoinModel" 144 ⟨"PictureJoinModel", "layPair", "(II)V"⟩ ∈ jws := jm (List.mem_of_getElem? (i := 802) (by decide +kernel)) (by decide +kernel)
theorem wm_X9_125 : Cond.methodLink "PictureJoinModel" 125 ⟨"PictureJoinModel", "nearest", "(III)I"⟩ ∈ jws := jm (List.mem_of_getElem? (i := 806) (by decide +kernel)) (by decide +kernel)
theorem wm_X9_121 : Cond.methodLink "PictureJoinModel" 121 ⟨"PictureJoinModel", "distance", "(IIII)I"⟩ ∈ jws := jm (List.mem_of_getElem? (i := 810) (by decide +kernel)) (by decide +kernel)
theorem wm_X9_117 : Cond.methodLink "PictureJoinModel" 117 ⟨"PictureJoinModel", "bits", "(I)I"⟩ ∈ jws := jm (List.mem_of_getElem? (i := 814) (by decide +kernel)) (by decide +kernel)
theorem wm_X9_128 : Cond.methodLink "PictureJoinModel" 128 ⟨"PictureJoinModel", "markX", "(II)I"⟩ ∈ jws := jm (List.mem_of_getElem? (i := 817) (by decide +kernel)) (by decide +kernel)
theorem wm_X9_131 : Cond.methodLink "PictureJoinModel" 131 ⟨"PictureJoinModel", "markY", "(II)I"⟩ ∈ jws := jm (List.mem_of_getElem? (i := 821) (by decide +kernel)) (by decide +kernel)
theorem wm_X9_134 : Cond.methodLink "PictureJoinModel" 134 ⟨"PictureJoinModel", "votesFor", "(IIII)I"⟩ ∈ jws := jm (List.mem_of_getElem? (i := 825) (by decide +kernel)) (by decide +kernel)
theorem wm_X9_147 : Cond.methodLink "PictureJoinModel" 147 ⟨"PictureJoinModel", "layPlaces", "()V"⟩ ∈ jws := jm (List.mem_of_getElem? (i := 829) (by decide +kernel)) (by decide +kernel)
theorem wm_L_58 : Cond.methodLink "PictureJoinLaw" 58 ⟨"PictureJoinModel", "mark", "(III)I"⟩ ∈ jws := jm (List.mem_of_getElem? (i := 833) (by decide +kernel)) (by decide +kernel)
theorem wm_X9_153 : Cond.methodLink "PictureJoinModel" 153 ⟨"PictureJoinModel", "hasMark", "(II)Z"⟩ ∈ jws := jm (List.mem_of_getElem? (i := 837) (by decide +kernel)) (by decide +kernel)
theorem wm_L_62 : Cond.methodLink "PictureJoinLaw" 62 ⟨"PictureJoinModel", "match", "(III)I"⟩ ∈ jws := jm (List.mem_of_getElem? (i := 841) (by decide +kernel)) (by decide +kernel)
theorem wm_L_66 : Cond.methodLink "PictureJoinLaw" 66 ⟨"PictureJoinModel", "shift", "(III)I"⟩ ∈ jws := jm (List.mem_of_getElem? (i := 845) (by decide +kernel)) (by decide +kernel)
theorem wm_X9_157 : Cond.methodLink "PictureJoinModel" 157 ⟨"PictureJoinModel", "arePair", "(II)Z"⟩ ∈ jws := jm (List.mem_of_getElem? (i := 849) (by decide +kernel)) (by decide +kernel)
theorem wm_L_70 : Cond.methodLink "PictureJoinLaw" 70 ⟨"PictureJoinModel", "place", "(II)I"⟩ ∈ jws := jm (List.mem_of_getElem? (i := 854) (by decide +kernel)) (by decide +kernel)
theorem wm_L_74 : Cond.methodLink "PictureJoinLaw" 74 ⟨"PictureJoinModel", "open", "()I"⟩ ∈ jws := jm (List.mem_of_getElem? (i := 858) (by decide +kernel)) (by decide +kernel)
theorem wm_L_78 : Cond.methodLink "PictureJoinLaw" 78 ⟨"PictureJoinModel", "joined", "()I"⟩ ∈ jws := jm (List.mem_of_getElem? (i := 862) (by decide +kernel)) (by decide +kernel)
theorem wm_L_82 : Cond.methodLink "PictureJoinLaw" 82 ⟨"PictureJoinModel", "overlap", "(III)I"⟩ ∈ jws := jm (List.mem_of_getElem? (i := 866) (by decide +kernel)) (by decide +kernel)
theorem wm_X9_176 : Cond.methodLink "PictureJoinModel" 176 ⟨"PictureJoinModel", "barsOverlap", "(IIZ)I"⟩ ∈ jws := jm (List.mem_of_getElem? (i := 870) (by decide +kernel)) (by decide +kernel)
theorem wm_X9_173 : Cond.methodLink "PictureJoinModel" 173 ⟨"PictureJoinModel", "layOverlap", "(II)V"⟩ ∈ jws := jm (List.mem_of_getElem? (i := 874) (by decide +kernel)) (by decide +kernel)
theorem wm_L_86 : Cond.methodLink "PictureJoinLaw" 86 ⟨"PictureJoinModel", "lights", "(III)I"⟩ ∈ jws := jm (List.mem_of_getElem? (i := 879) (by decide +kernel)) (by decide +kernel)
theorem wm_X9_181 : Cond.methodLink "PictureJoinModel" 181 ⟨"PictureJoinModel", "dotOver", "(III)I"⟩ ∈ jws := jm (List.mem_of_getElem? (i := 883) (by decide +kernel)) (by decide +kernel)
theorem wm_L_90 : Cond.methodLink "PictureJoinLaw" 90 ⟨"PictureJoinModel", "seam", "(III)I"⟩ ∈ jws := jm (List.mem_of_getElem? (i := 887) (by decide +kernel)) (by decide +kernel)
theorem wm_X9_187 : Cond.methodLink "PictureJoinModel" 187 ⟨"PictureJoinModel", "below", "(II)I"⟩ ∈ jws := jm (List.mem_of_getElem? (i := 891) (by decide +kernel)) (by decide +kernel)
theorem wm_X9_184 : Cond.methodLink "PictureJoinModel" 184 ⟨"PictureJoinModel", "leastAt", "(II)I"⟩ ∈ jws := jm (List.mem_of_getElem? (i := 895) (by decide +kernel)) (by decide +kernel)
theorem wm_L_94 : Cond.methodLink "PictureJoinLaw" 94 ⟨"PictureJoinModel", "whole", "(III)I"⟩ ∈ jws := jm (List.mem_of_getElem? (i := 899) (by decide +kernel)) (by decide +kernel)
theorem wm_X9_190 : Cond.methodLink "PictureJoinModel" 190 ⟨"PictureJoinModel", "pictureAt", "(II)I"⟩ ∈ jws := jm (List.mem_of_getElem? (i := 903) (by decide +kernel)) (by decide +kernel)
theorem wm_L_98 : Cond.methodLink "PictureJoinLaw" 98 ⟨"PictureJoinModel", "extent", "(I)I"⟩ ∈ jws := jm (List.mem_of_getElem? (i := 907) (by decide +kernel)) (by decide +kernel)
theorem wm_X9_193 : Cond.methodLink "PictureJoinModel" 193 ⟨"PictureJoinModel", "edge", "(I)I"⟩ ∈ jws := jm (List.mem_of_getElem? (i := 911) (by decide +kernel)) (by decide +kernel)
theorem wm_L_102 : Cond.methodLink "PictureJoinLaw" 102 ⟨"PictureJoinModel", "told", "(I)I"⟩ ∈ jws := jm (List.mem_of_getElem? (i := 915) (by decide +kernel)) (by decide +kernel)
theorem wk_X7_9 : Cond.constant "PictureJoin$World" 9 (73856093) ∈ jws := jm (List.mem_of_getElem? (i := 326) (by decide +kernel)) (by decide +kernel)
theorem wk_X7_10 : Cond.constant "PictureJoin$World" 10 (19349663) ∈ jws := jm (List.mem_of_getElem? (i := 327) (by decide +kernel)) (by decide +kernel)
theorem wk_X7_17 : Cond.constant "PictureJoin$World" 17 (83492791) ∈ jws := jm (List.mem_of_getElem? (i := 328) (by decide +kernel)) (by decide +kernel)
theorem wk_X7_18 : Cond.constant "PictureJoin$World" 18 (739982445) ∈ jws := jm (List.mem_of_getElem? (i := 329) (by decide +kernel)) (by decide +kernel)
theorem wk_X8_85 : Cond.constant "PictureJoin" 85 (-1000001) ∈ jws := jm (List.mem_of_getElem? (i := 372) (by decide +kernel)) (by decide +kernel)
theorem wk_X8_86 : Cond.constant "PictureJoin" 86 (-1000002) ∈ jws := jm (List.mem_of_getElem? (i := 373) (by decide +kernel)) (by decide +kernel)
theorem wk_X8_94 : Cond.constant "PictureJoin" 94 (1000000) ∈ jws := jm (List.mem_of_getElem? (i := 387) (by decide +kernel)) (by decide +kernel)
theorem wk_X1_43 : Cond.constant "PictureJoin$Dots" 43 (585225) ∈ jws := jm (List.mem_of_getElem? (i := 397) (by decide +kernel)) (by decide +kernel)
theorem wk_J6_265 : Cond.constant "java/lang/Integer" 265 (1431655765) ∈ jws := jm (List.mem_of_getElem? (i := 460) (by decide +kernel)) (by decide +kernel)
theorem wk_J6_266 : Cond.constant "java/lang/Integer" 266 (858993459) ∈ jws := jm (List.mem_of_getElem? (i := 461) (by decide +kernel)) (by decide +kernel)
theorem wk_J6_267 : Cond.constant "java/lang/Integer" 267 (252645135) ∈ jws := jm (List.mem_of_getElem? (i := 462) (by decide +kernel)) (by decide +kernel)
theorem wk_X8_147 : Cond.constant "PictureJoin" 147 (-1000005) ∈ jws := jm (List.mem_of_getElem? (i := 513) (by decide +kernel)) (by decide +kernel)
theorem wk_X8_183 : Cond.constant "PictureJoin" 183 (-1000000) ∈ jws := jm (List.mem_of_getElem? (i := 543) (by decide +kernel)) (by decide +kernel)
theorem wk_X9_78 : Cond.constant "PictureJoinModel" 78 (73856093) ∈ jws := jm (List.mem_of_getElem? (i := 731) (by decide +kernel)) (by decide +kernel)
theorem wk_X9_79 : Cond.constant "PictureJoinModel" 79 (19349663) ∈ jws := jm (List.mem_of_getElem? (i := 732) (by decide +kernel)) (by decide +kernel)
theorem wk_X9_80 : Cond.constant "PictureJoinModel" 80 (83492791) ∈ jws := jm (List.mem_of_getElem? (i := 733) (by decide +kernel)) (by decide +kernel)
theorem wk_X9_81 : Cond.constant "PictureJoinModel" 81 (739982445) ∈ jws := jm (List.mem_of_getElem? (i := 734) (by decide +kernel)) (by decide +kernel)
theorem wk_X9_97 : Cond.constant "PictureJoinModel" 97 (-1000001) ∈ jws := jm (List.mem_of_getElem? (i := 755) (by decide +kernel)) (by decide +kernel)
theorem wk_X9_98 : Cond.constant "PictureJoinModel" 98 (-1000002) ∈ jws := jm (List.mem_of_getElem? (i := 756) (by decide +kernel)) (by decide +kernel)
theorem wk_X9_103 : Cond.constant "PictureJoinModel" 103 (1000000) ∈ jws := jm (List.mem_of_getElem? (i := 769) (by decide +kernel)) (by decide +kernel)
theorem wk_X9_160 : Cond.constant "PictureJoinModel" 160 (-1000005) ∈ jws := jm (List.mem_of_getElem? (i := 853) (by decide +kernel)) (by decide +kernel)
theorem wk_X9_180 : Cond.constant "PictureJoinModel" 180 (-1000000) ∈ jws := jm (List.mem_of_getElem? (i := 878) (by decide +kernel)) (by decide +kernel)
theorem wi_L : Cond.initialized "PictureJoinLaw" ∈ jws := jm (List.mem_of_getElem? (i := 42) (by decide +kernel)) (by decide +kernel)
theorem wi_X8 : Cond.initialized "PictureJoin" ∈ jws := jm (List.mem_of_getElem? (i := 43) (by decide +kernel)) (by decide +kernel)
theorem wi_X7 : Cond.initialized "PictureJoin$World" ∈ jws := jm (List.mem_of_getElem? (i := 44) (by decide +kernel)) (by decide +kernel)
theorem wi_X0 : Cond.initialized "PictureJoin$Album" ∈ jws := jm (List.mem_of_getElem? (i := 45) (by decide +kernel)) (by decide +kernel)
theorem wi_X5 : Cond.initialized "PictureJoin$Picture" ∈ jws := jm (List.mem_of_getElem? (i := 46) (by decide +kernel)) (by decide +kernel)
theorem wi_X1 : Cond.initialized "PictureJoin$Dots" ∈ jws := jm (List.mem_of_getElem? (i := 47) (by decide +kernel)) (by decide +kernel)
theorem wi_X2 : Cond.initialized "PictureJoin$Marks" ∈ jws := jm (List.mem_of_getElem? (i := 48) (by decide +kernel)) (by decide +kernel)
theorem wi_X4 : Cond.initialized "PictureJoin$Pairing" ∈ jws := jm (List.mem_of_getElem? (i := 49) (by decide +kernel)) (by decide +kernel)
theorem wi_X3 : Cond.initialized "PictureJoin$Overlap" ∈ jws := jm (List.mem_of_getElem? (i := 50) (by decide +kernel)) (by decide +kernel)
theorem wi_X6 : Cond.initialized "PictureJoin$Seam" ∈ jws := jm (List.mem_of_getElem? (i := 51) (by decide +kernel)) (by decide +kernel)
theorem wi_X9 : Cond.initialized "PictureJoinModel" ∈ jws := jm (List.mem_of_getElem? (i := 52) (by decide +kernel)) (by decide +kernel)
theorem wi_J9 : Cond.initialized "java/lang/Math" ∈ jws := jm (List.mem_of_getElem? (i := 53) (by decide +kernel)) (by decide +kernel)
theorem wi_J6 : Cond.initialized "java/lang/Integer" ∈ jws := jm (List.mem_of_getElem? (i := 54) (by decide +kernel)) (by decide +kernel)
theorem wi_Math : Cond.initialized "java/lang/Math" ∈ jws := jm (List.mem_of_getElem? (i := 53) (by decide +kernel)) (by decide +kernel)
theorem wn_X0_init : Cond.instanceMethod ⟨"PictureJoin$Album", "<init>", "()V"⟩ ∈ jws := jm (List.mem_of_getElem? (i := 77) (by decide +kernel)) (by decide +kernel)
set_option maxRecDepth 100000 in
theorem wc_X0_init : Cond.code yX0_init cX0_init 2 (none : Option FieldType) ∈ jws := jm (List.mem_of_getElem? (i := 78) (by rfl)) (by rfl)
theorem wn_X0_pairingOf : Cond.instanceMethod ⟨"PictureJoin$Album", "pairingOf", "(II)LPictureJoin$Pairing;"⟩ ∈ jws := jm (List.mem_of_getElem? (i := 443) (by decide +kernel)) (by decide +kernel)
theorem wv_X0_pairingOf : Cond.selects "PictureJoin$Album" ⟨"PictureJoin$Album", "pairingOf", "(II)LPictureJoin$Pairing;"⟩ ⟨"PictureJoin$Album", "pairingOf", "(II)LPictureJoin$Pairing;"⟩ ∈ jws := jm (List.mem_of_getElem? (i := 444) (by decide +kernel)) (by decide +kernel)
set_option maxRecDepth 100000 in
theorem wc_X0_pairingOf : Cond.code yX0_pairingOf cX0_pairingOf 3 (some (FieldType.object "PictureJoin$Pairing")) ∈ jws := jm (List.mem_of_getElem? (i := 445) (by rfl)) (by rfl)
theorem wn_X0_settle : Cond.instanceMethod ⟨"PictureJoin$Album", "settle", "(II)V"⟩ ∈ jws := jm (List.mem_of_getElem? (i := 412) (by decide +kernel)) (by decide +kernel)
theorem wv_X0_settle : Cond.selects "PictureJoin$Album" ⟨"PictureJoin$Album", "settle", "(II)V"⟩ ⟨"PictureJoin$Album", "settle", "(II)V"⟩ ∈ jws := jm (List.mem_of_getElem? (i := 413) (by decide +kernel)) (by decide +kernel)
set_option maxRecDepth 100000 in
theorem wc_X0_settle : Cond.code yX0_settle cX0_settle 5 (none : Option FieldType) ∈ jws := jm (List.mem_of_getElem? (i := 414) (by rfl)) (by rfl)
theorem wn_X0_joinAll : Cond.instanceMethod ⟨"PictureJoin$Album", "joinAll", "()V"⟩ ∈ jws := jm (List.mem_of_getElem? (i := 478) (by decide +kernel)) (by decide +kernel)
theorem wv_X0_joinAll : Cond.selects "PictureJoin$Album" ⟨"PictureJoin$Album", "joinAll", "()V"⟩ ⟨"PictureJoin$Album", "joinAll", "()V"⟩ ∈ jws := jm (List.mem_of_getElem? (i := 7) (by decide +kernel)) (by decide +kernel)
set_option maxRecDepth 100000 in
theorem wc_X0_joinAll : Cond.code yX0_joinAll cX0_joinAll 4 (none : Option FieldType) ∈ jws := jm (List.mem_of_getElem? (i := 479) (by rfl)) (by rfl)
theorem wn_X0_put : Cond.instanceMethod ⟨"PictureJoin$Album", "put", "(IIII)V"⟩ ∈ jws := jm (List.mem_of_getElem? (i := 482) (by decide +kernel)) (by decide +kernel)
theorem wv_X0_put : Cond.selects "PictureJoin$Album" ⟨"PictureJoin$Album", "put", "(IIII)V"⟩ ⟨"PictureJoin$Album", "put", "(IIII)V"⟩ ∈ jws := jm (List.mem_of_getElem? (i := 8) (by decide +kernel)) (by decide +kernel)
set_option maxRecDepth 100000 in
theorem wc_X0_put : Cond.code yX0_put cX0_put 6 (none : Option FieldType) ∈ jws := jm (List.mem_of_getElem? (i := 483) (by rfl)) (by rfl)
theorem wn_X0_bestPair : Cond.instanceMethod ⟨"PictureJoin$Album", "bestPair", "()I"⟩ ∈ jws := jm (List.mem_of_getElem? (i := 486) (by decide +kernel)) (by decide +kernel)
theorem wv_X0_bestPair : Cond.selects "PictureJoin$Album" ⟨"PictureJoin$Album", "bestPair", "()I"⟩ ⟨"PictureJoin$Album", "bestPair", "()I"⟩ ∈ jws := jm (List.mem_of_getElem? (i := 9) (by decide +kernel)) (by decide +kernel)
set_option maxRecDepth 100000 in
theorem wc_X0_bestPair : Cond.code yX0_bestPair cX0_bestPair 6 (some FieldType.int) ∈ jws := jm (List.mem_of_getElem? (i := 487) (by rfl)) (by rfl)
theorem wn_X0_countOpen : Cond.instanceMethod ⟨"PictureJoin$Album", "countOpen", "()I"⟩ ∈ jws := jm (List.mem_of_getElem? (i := 524) (by decide +kernel)) (by decide +kernel)
theorem wv_X0_countOpen : Cond.selects "PictureJoin$Album" ⟨"PictureJoin$Album", "countOpen", "()I"⟩ ⟨"PictureJoin$Album", "countOpen", "()I"⟩ ∈ jws := jm (List.mem_of_getElem? (i := 525) (by decide +kernel)) (by decide +kernel)
set_option maxRecDepth 100000 in
theorem wc_X0_countOpen : Cond.code yX0_countOpen cX0_countOpen 4 (some FieldType.int) ∈ jws := jm (List.mem_of_getElem? (i := 526) (by rfl)) (by rfl)
theorem wn_X0_isOpen : Cond.instanceMethod ⟨"PictureJoin$Album", "isOpen", "(II)Z"⟩ ∈ jws := jm (List.mem_of_getElem? (i := 529) (by decide +kernel)) (by decide +kernel)
theorem wv_X0_isOpen : Cond.selects "PictureJoin$Album" ⟨"PictureJoin$Album", "isOpen", "(II)Z"⟩ ⟨"PictureJoin$Album", "isOpen", "(II)Z"⟩ ∈ jws := jm (List.mem_of_getElem? (i := 12) (by decide +kernel)) (by decide +kernel)
set_option maxRecDepth 100000 in
theorem wc_X0_isOpen : Cond.code yX0_isOpen cX0_isOpen 6 (some FieldType.boolean) ∈ jws := jm (List.mem_of_getElem? (i := 530) (by rfl)) (by rfl)
theorem wn_X0_firstAt : Cond.instanceMethod ⟨"PictureJoin$Album", "firstAt", "(II)I"⟩ ∈ jws := jm (List.mem_of_getElem? (i := 603) (by decide +kernel)) (by decide +kernel)
theorem wv_X0_firstAt : Cond.selects "PictureJoin$Album" ⟨"PictureJoin$Album", "firstAt", "(II)I"⟩ ⟨"PictureJoin$Album", "firstAt", "(II)I"⟩ ∈ jws := jm (List.mem_of_getElem? (i := 604) (by decide +kernel)) (by decide +kernel)
set_option maxRecDepth 100000 in
theorem wc_X0_firstAt : Cond.code yX0_firstAt cX0_firstAt 4 (some FieldType.int) ∈ jws := jm (List.mem_of_getElem? (i := 605) (by rfl)) (by rfl)
theorem wn_X0_edge : Cond.instanceMethod ⟨"PictureJoin$Album", "edge", "(I)I"⟩ ∈ jws := jm (List.mem_of_getElem? (i := 618) (by decide +kernel)) (by decide +kernel)
theorem wv_X0_edge : Cond.selects "PictureJoin$Album" ⟨"PictureJoin$Album", "edge", "(I)I"⟩ ⟨"PictureJoin$Album", "edge", "(I)I"⟩ ∈ jws := jm (List.mem_of_getElem? (i := 619) (by decide +kernel)) (by decide +kernel)
set_option maxRecDepth 100000 in
theorem wc_X0_edge : Cond.code yX0_edge cX0_edge 5 (some FieldType.int) ∈ jws := jm (List.mem_of_getElem? (i := 620) (by rfl)) (by rfl)
theorem wn_X0_countPlaces : Cond.instanceMethod ⟨"PictureJoin$Album", "countPlaces", "()I"⟩ ∈ jws := jm (List.mem_of_getElem? (i := 613) (by decide +kernel)) (by decide +kernel)
theorem wv_X0_countPlaces : Cond.selects "PictureJoin$Album" ⟨"PictureJoin$Album", "countPlaces", "()I"⟩ ⟨"PictureJoin$Album", "countPlaces", "()I"⟩ ∈ jws := jm (List.mem_of_getElem? (i := 614) (by decide +kernel)) (by decide +kernel)
set_option maxRecDepth 100000 in
theorem wc_X0_countPlaces : Cond.code yX0_countPlaces cX0_countPlaces 6 (some FieldType.int) ∈ jws := jm (List.mem_of_getElem? (i := 615) (by rfl)) (by rfl)
theorem wn_X1_init : Cond.instanceMethod ⟨"PictureJoin$Dots", "<init>", "()V"⟩ ∈ jws := jm (List.mem_of_getElem? (i := 92) (by decide +kernel)) (by decide +kernel)
set_option maxRecDepth 100000 in
theorem wc_X1_init : Cond.code yX1_init cX1_init 1 (none : Option FieldType) ∈ jws := jm (List.mem_of_getElem? (i := 93) (by rfl)) (by rfl)
theorem wn_X1_resize : Cond.instanceMethod ⟨"PictureJoin$Dots", "resize", "(II)V"⟩ ∈ jws := jm (List.mem_of_getElem? (i := 335) (by decide +kernel)) (by decide +kernel)
theorem wv_X1_resize : Cond.selects "PictureJoin$Dots" ⟨"PictureJoin$Dots", "resize", "(II)V"⟩ ⟨"PictureJoin$Dots", "resize", "(II)V"⟩ ∈ jws := jm (List.mem_of_getElem? (i := 336) (by decide +kernel)) (by decide +kernel)
set_option maxRecDepth 100000 in
theorem wc_X1_resize : Cond.code yX1_resize cX1_resize 3 (none : Option FieldType) ∈ jws := jm (List.mem_of_getElem? (i := 337) (by rfl)) (by rfl)
theorem wn_X1_has : Cond.instanceMethod ⟨"PictureJoin$Dots", "has", "(II)Z"⟩ ∈ jws := jm (List.mem_of_getElem? (i := 352) (by decide +kernel)) (by decide +kernel)
theorem wv_X1_has : Cond.selects "PictureJoin$Dots" ⟨"PictureJoin$Dots", "has", "(II)Z"⟩ ⟨"PictureJoin$Dots", "has", "(II)Z"⟩ ∈ jws := jm (List.mem_of_getElem? (i := 353) (by decide +kernel)) (by decide +kernel)
set_option maxRecDepth 100000 in
theorem wc_X1_has : Cond.code yX1_has cX1_has 3 (some FieldType.boolean) ∈ jws := jm (List.mem_of_getElem? (i := 354) (by rfl)) (by rfl)
theorem wn_X1_get : Cond.instanceMethod ⟨"PictureJoin$Dots", "get", "(II)I"⟩ ∈ jws := jm (List.mem_of_getElem? (i := 375) (by decide +kernel)) (by decide +kernel)
theorem wv_X1_get : Cond.selects "PictureJoin$Dots" ⟨"PictureJoin$Dots", "get", "(II)I"⟩ ⟨"PictureJoin$Dots", "get", "(II)I"⟩ ∈ jws := jm (List.mem_of_getElem? (i := 376) (by decide +kernel)) (by decide +kernel)
set_option maxRecDepth 100000 in
theorem wc_X1_get : Cond.code yX1_get cX1_get 3 (some FieldType.int) ∈ jws := jm (List.mem_of_getElem? (i := 377) (by rfl)) (by rfl)
theorem wn_X1_put : Cond.instanceMethod ⟨"PictureJoin$Dots", "put", "(III)V"⟩ ∈ jws := jm (List.mem_of_getElem? (i := 348) (by decide +kernel)) (by decide +kernel)
theorem wv_X1_put : Cond.selects "PictureJoin$Dots" ⟨"PictureJoin$Dots", "put", "(III)V"⟩ ⟨"PictureJoin$Dots", "put", "(III)V"⟩ ∈ jws := jm (List.mem_of_getElem? (i := 349) (by decide +kernel)) (by decide +kernel)
set_option maxRecDepth 100000 in
theorem wc_X1_put : Cond.code yX1_put cX1_put 4 (none : Option FieldType) ∈ jws := jm (List.mem_of_getElem? (i := 350) (by rfl)) (by rfl)
theorem wn_X1_scoreOf : Cond.instanceMethod ⟨"PictureJoin$Dots", "scoreOf", "(II)I"⟩ ∈ jws := jm (List.mem_of_getElem? (i := 393) (by decide +kernel)) (by decide +kernel)
theorem wv_X1_scoreOf : Cond.selects "PictureJoin$Dots" ⟨"PictureJoin$Dots", "scoreOf", "(II)I"⟩ ⟨"PictureJoin$Dots", "scoreOf", "(II)I"⟩ ∈ jws := jm (List.mem_of_getElem? (i := 394) (by decide +kernel)) (by decide +kernel)
set_option maxRecDepth 100000 in
theorem wc_X1_scoreOf : Cond.code yX1_scoreOf cX1_scoreOf 6 (some FieldType.int) ∈ jws := jm (List.mem_of_getElem? (i := 395) (by rfl)) (by rfl)
theorem wn_X1_changeAbout : Cond.instanceMethod ⟨"PictureJoin$Dots", "changeAbout", "(IIII)I"⟩ ∈ jws := jm (List.mem_of_getElem? (i := 404) (by decide +kernel)) (by decide +kernel)
theorem wv_X1_changeAbout : Cond.selects "PictureJoin$Dots" ⟨"PictureJoin$Dots", "changeAbout", "(IIII)I"⟩ ⟨"PictureJoin$Dots", "changeAbout", "(IIII)I"⟩ ∈ jws := jm (List.mem_of_getElem? (i := 2) (by decide +kernel)) (by decide +kernel)
set_option maxRecDepth 100000 in
theorem wc_X1_changeAbout : Cond.code yX1_changeAbout cX1_changeAbout 10 (some FieldType.int) ∈ jws := jm (List.mem_of_getElem? (i := 405) (by rfl)) (by rfl)
theorem wn_X1_scoreAll : Cond.instanceMethod ⟨"PictureJoin$Dots", "scoreAll", "()V"⟩ ∈ jws := jm (List.mem_of_getElem? (i := 416) (by decide +kernel)) (by decide +kernel)
theorem wv_X1_scoreAll : Cond.selects "PictureJoin$Dots" ⟨"PictureJoin$Dots", "scoreAll", "()V"⟩ ⟨"PictureJoin$Dots", "scoreAll", "()V"⟩ ∈ jws := jm (List.mem_of_getElem? (i := 417) (by decide +kernel)) (by decide +kernel)
set_option maxRecDepth 100000 in
theorem wc_X1_scoreAll : Cond.code yX1_scoreAll cX1_scoreAll 3 (none : Option FieldType) ∈ jws := jm (List.mem_of_getElem? (i := 418) (by rfl)) (by rfl)
theorem wn_X1_keptScore : Cond.instanceMethod ⟨"PictureJoin$Dots", "keptScore", "(II)I"⟩ ∈ jws := jm (List.mem_of_getElem? (i := 425) (by decide +kernel)) (by decide +kernel)
theorem wv_X1_keptScore : Cond.selects "PictureJoin$Dots" ⟨"PictureJoin$Dots", "keptScore", "(II)I"⟩ ⟨"PictureJoin$Dots", "keptScore", "(II)I"⟩ ∈ jws := jm (List.mem_of_getElem? (i := 426) (by decide +kernel)) (by decide +kernel)
set_option maxRecDepth 100000 in
theorem wc_X1_keptScore : Cond.code yX1_keptScore cX1_keptScore 3 (some FieldType.int) ∈ jws := jm (List.mem_of_getElem? (i := 427) (by rfl)) (by rfl)
theorem wn_X1_isPeak : Cond.instanceMethod ⟨"PictureJoin$Dots", "isPeak", "(II)Z"⟩ ∈ jws := jm (List.mem_of_getElem? (i := 429) (by decide +kernel)) (by decide +kernel)
theorem wv_X1_isPeak : Cond.selects "PictureJoin$Dots" ⟨"PictureJoin$Dots", "isPeak", "(II)Z"⟩ ⟨"PictureJoin$Dots", "isPeak", "(II)Z"⟩ ∈ jws := jm (List.mem_of_getElem? (i := 430) (by decide +kernel)) (by decide +kernel)
set_option maxRecDepth 100000 in
theorem wc_X1_isPeak : Cond.code yX1_isPeak cX1_isPeak 8 (some FieldType.boolean) ∈ jws := jm (List.mem_of_getElem? (i := 431) (by rfl)) (by rfl)
theorem wn_X1_signOf : Cond.instanceMethod ⟨"PictureJoin$Dots", "signOf", "(II)I"⟩ ∈ jws := jm (List.mem_of_getElem? (i := 439) (by decide +kernel)) (by decide +kernel)
theorem wv_X1_signOf : Cond.selects "PictureJoin$Dots" ⟨"PictureJoin$Dots", "signOf", "(II)I"⟩ ⟨"PictureJoin$Dots", "signOf", "(II)I"⟩ ∈ jws := jm (List.mem_of_getElem? (i := 440) (by decide +kernel)) (by decide +kernel)
set_option maxRecDepth 100000 in
theorem wc_X1_signOf : Cond.code yX1_signOf cX1_signOf 7 (some FieldType.int) ∈ jws := jm (List.mem_of_getElem? (i := 441) (by rfl)) (by rfl)
theorem wn_X2_init : Cond.instanceMethod ⟨"PictureJoin$Marks", "<init>", "()V"⟩ ∈ jws := jm (List.mem_of_getElem? (i := 125) (by decide +kernel)) (by decide +kernel)
set_option maxRecDepth 100000 in
theorem wc_X2_init : Cond.code yX2_init cX2_init 1 (none : Option FieldType) ∈ jws := jm (List.mem_of_getElem? (i := 126) (by rfl)) (by rfl)
theorem wn_X2_find : Cond.instanceMethod ⟨"PictureJoin$Marks", "find", "(LPictureJoin$Dots;I)V"⟩ ∈ jws := jm (List.mem_of_getElem? (i := 421) (by decide +kernel)) (by decide +kernel)
theorem wv_X2_find : Cond.selects "PictureJoin$Marks" ⟨"PictureJoin$Marks", "find", "(LPictureJoin$Dots;I)V"⟩ ⟨"PictureJoin$Marks", "find", "(LPictureJoin$Dots;I)V"⟩ ∈ jws := jm (List.mem_of_getElem? (i := 422) (by decide +kernel)) (by decide +kernel)
set_option maxRecDepth 100000 in
theorem wc_X2_find : Cond.code yX2_find cX2_find 6 (none : Option FieldType) ∈ jws := jm (List.mem_of_getElem? (i := 423) (by rfl)) (by rfl)
theorem wn_X2_insert : Cond.instanceMethod ⟨"PictureJoin$Marks", "insert", "(III)V"⟩ ∈ jws := jm (List.mem_of_getElem? (i := 435) (by decide +kernel)) (by decide +kernel)
theorem wv_X2_insert : Cond.selects "PictureJoin$Marks" ⟨"PictureJoin$Marks", "insert", "(III)V"⟩ ⟨"PictureJoin$Marks", "insert", "(III)V"⟩ ∈ jws := jm (List.mem_of_getElem? (i := 3) (by decide +kernel)) (by decide +kernel)
set_option maxRecDepth 100000 in
theorem wc_X2_insert : Cond.code yX2_insert cX2_insert 6 (none : Option FieldType) ∈ jws := jm (List.mem_of_getElem? (i := 436) (by rfl)) (by rfl)
theorem wn_X2_nearestTo : Cond.instanceMethod ⟨"PictureJoin$Marks", "nearestTo", "(I)I"⟩ ∈ jws := jm (List.mem_of_getElem? (i := 454) (by decide +kernel)) (by decide +kernel)
theorem wv_X2_nearestTo : Cond.selects "PictureJoin$Marks" ⟨"PictureJoin$Marks", "nearestTo", "(I)I"⟩ ⟨"PictureJoin$Marks", "nearestTo", "(I)I"⟩ ∈ jws := jm (List.mem_of_getElem? (i := 455) (by decide +kernel)) (by decide +kernel)
set_option maxRecDepth 100000 in
theorem wc_X2_nearestTo : Cond.code yX2_nearestTo cX2_nearestTo 6 (some FieldType.int) ∈ jws := jm (List.mem_of_getElem? (i := 456) (by rfl)) (by rfl)
theorem wn_X3_init : Cond.instanceMethod ⟨"PictureJoin$Overlap", "<init>", "()V"⟩ ∈ jws := jm (List.mem_of_getElem? (i := 238) (by decide +kernel)) (by decide +kernel)
set_option maxRecDepth 100000 in
theorem wc_X3_init : Cond.code yX3_init cX3_init 1 (none : Option FieldType) ∈ jws := jm (List.mem_of_getElem? (i := 239) (by rfl)) (by rfl)
theorem wn_X3_find : Cond.instanceMethod ⟨"PictureJoin$Overlap", "find", "(LPictureJoin$Picture;LPictureJoin$Picture;)V"⟩ ∈ jws := jm (List.mem_of_getElem? (i := 545) (by decide +kernel)) (by decide +kernel)
theorem wv_X3_find : Cond.selects "PictureJoin$Overlap" ⟨"PictureJoin$Overlap", "find", "(LPictureJoin$Picture;LPictureJoin$Picture;)V"⟩ ⟨"PictureJoin$Overlap", "find", "(LPictureJoin$Picture;LPictureJoin$Picture;)V"⟩ ∈ jws := jm (List.mem_of_getElem? (i := 546) (by decide +kernel)) (by decide +kernel)
set_option maxRecDepth 100000 in
theorem wc_X3_find : Cond.code yX3_find cX3_find 3 (none : Option FieldType) ∈ jws := jm (List.mem_of_getElem? (i := 547) (by rfl)) (by rfl)
theorem wn_X3_isThere : Cond.instanceMethod ⟨"PictureJoin$Overlap", "isThere", "()Z"⟩ ∈ jws := jm (List.mem_of_getElem? (i := 557) (by decide +kernel)) (by decide +kernel)
theorem wv_X3_isThere : Cond.selects "PictureJoin$Overlap" ⟨"PictureJoin$Overlap", "isThere", "()Z"⟩ ⟨"PictureJoin$Overlap", "isThere", "()Z"⟩ ∈ jws := jm (List.mem_of_getElem? (i := 558) (by decide +kernel)) (by decide +kernel)
set_option maxRecDepth 100000 in
theorem wc_X3_isThere : Cond.code yX3_isThere cX3_isThere 1 (some FieldType.boolean) ∈ jws := jm (List.mem_of_getElem? (i := 559) (by rfl)) (by rfl)
theorem wn_X3_compare : Cond.instanceMethod ⟨"PictureJoin$Overlap", "compare", "(LPictureJoin$Picture;LPictureJoin$Picture;)V"⟩ ∈ jws := jm (List.mem_of_getElem? (i := 565) (by decide +kernel)) (by decide +kernel)
theorem wv_X3_compare : Cond.selects "PictureJoin$Overlap" ⟨"PictureJoin$Overlap", "compare", "(LPictureJoin$Picture;LPictureJoin$Picture;)V"⟩ ⟨"PictureJoin$Overlap", "compare", "(LPictureJoin$Picture;LPictureJoin$Picture;)V"⟩ ∈ jws := jm (List.mem_of_getElem? (i := 566) (by decide +kernel)) (by decide +kernel)
set_option maxRecDepth 100000 in
theorem wc_X3_compare : Cond.code yX3_compare cX3_compare 7 (none : Option FieldType) ∈ jws := jm (List.mem_of_getElem? (i := 567) (by rfl)) (by rfl)
theorem wn_X4_init : Cond.instanceMethod ⟨"PictureJoin$Pairing", "<init>", "()V"⟩ ∈ jws := jm (List.mem_of_getElem? (i := 185) (by decide +kernel)) (by decide +kernel)
set_option maxRecDepth 100000 in
theorem wc_X4_init : Cond.code yX4_init cX4_init 1 (none : Option FieldType) ∈ jws := jm (List.mem_of_getElem? (i := 186) (by rfl)) (by rfl)
theorem wn_X4_find : Cond.instanceMethod ⟨"PictureJoin$Pairing", "find", "(LPictureJoin$Marks;LPictureJoin$Marks;I)V"⟩ ∈ jws := jm (List.mem_of_getElem? (i := 447) (by decide +kernel)) (by decide +kernel)
theorem wv_X4_find : Cond.selects "PictureJoin$Pairing" ⟨"PictureJoin$Pairing", "find", "(LPictureJoin$Marks;LPictureJoin$Marks;I)V"⟩ ⟨"PictureJoin$Pairing", "find", "(LPictureJoin$Marks;LPictureJoin$Marks;I)V"⟩ ∈ jws := jm (List.mem_of_getElem? (i := 448) (by decide +kernel)) (by decide +kernel)
set_option maxRecDepth 100000 in
theorem wc_X4_find : Cond.code yX4_find cX4_find 5 (none : Option FieldType) ∈ jws := jm (List.mem_of_getElem? (i := 449) (by rfl)) (by rfl)
theorem ws_X4_partnerOf : Cond.static ⟨"PictureJoin$Pairing", "partnerOf", "(LPictureJoin$Marks;ILPictureJoin$Marks;I)I"⟩ ∈ jws := jm (List.mem_of_getElem? (i := 451) (by decide +kernel)) (by decide +kernel)
set_option maxRecDepth 100000 in
theorem wc_X4_partnerOf : Cond.code yX4_partnerOf cX4_partnerOf 5 (some FieldType.int) ∈ jws := jm (List.mem_of_getElem? (i := 452) (by rfl)) (by rfl)
theorem wn_X4_shiftX : Cond.instanceMethod ⟨"PictureJoin$Pairing", "shiftX", "(LPictureJoin$Marks;ILPictureJoin$Marks;)I"⟩ ∈ jws := jm (List.mem_of_getElem? (i := 466) (by decide +kernel)) (by decide +kernel)
theorem wv_X4_shiftX : Cond.selects "PictureJoin$Pairing" ⟨"PictureJoin$Pairing", "shiftX", "(LPictureJoin$Marks;ILPictureJoin$Marks;)I"⟩ ⟨"PictureJoin$Pairing", "shiftX", "(LPictureJoin$Marks;ILPictureJoin$Marks;)I"⟩ ∈ jws := jm (List.mem_of_getElem? (i := 4) (by decide +kernel)) (by decide +kernel)
set_option maxRecDepth 100000 in
theorem wc_X4_shiftX : Cond.code yX4_shiftX cX4_shiftX 4 (some FieldType.int) ∈ jws := jm (List.mem_of_getElem? (i := 467) (by rfl)) (by rfl)
theorem wn_X4_shiftY : Cond.instanceMethod ⟨"PictureJoin$Pairing", "shiftY", "(LPictureJoin$Marks;ILPictureJoin$Marks;)I"⟩ ∈ jws := jm (List.mem_of_getElem? (i := 470) (by decide +kernel)) (by decide +kernel)
theorem wv_X4_shiftY : Cond.selects "PictureJoin$Pairing" ⟨"PictureJoin$Pairing", "shiftY", "(LPictureJoin$Marks;ILPictureJoin$Marks;)I"⟩ ⟨"PictureJoin$Pairing", "shiftY", "(LPictureJoin$Marks;ILPictureJoin$Marks;)I"⟩ ∈ jws := jm (List.mem_of_getElem? (i := 5) (by decide +kernel)) (by decide +kernel)
set_option maxRecDepth 100000 in
theorem wc_X4_shiftY : Cond.code yX4_shiftY cX4_shiftY 4 (some FieldType.int) ∈ jws := jm (List.mem_of_getElem? (i := 471) (by rfl)) (by rfl)
theorem wn_X4_propose : Cond.instanceMethod ⟨"PictureJoin$Pairing", "propose", "(LPictureJoin$Marks;LPictureJoin$Marks;II)V"⟩ ∈ jws := jm (List.mem_of_getElem? (i := 474) (by decide +kernel)) (by decide +kernel)
theorem wv_X4_propose : Cond.selects "PictureJoin$Pairing" ⟨"PictureJoin$Pairing", "propose", "(LPictureJoin$Marks;LPictureJoin$Marks;II)V"⟩ ⟨"PictureJoin$Pairing", "propose", "(LPictureJoin$Marks;LPictureJoin$Marks;II)V"⟩ ∈ jws := jm (List.mem_of_getElem? (i := 6) (by decide +kernel)) (by decide +kernel)
set_option maxRecDepth 100000 in
theorem wc_X4_propose : Cond.code yX4_propose cX4_propose 7 (none : Option FieldType) ∈ jws := jm (List.mem_of_getElem? (i := 475) (by rfl)) (by rfl)
theorem wn_X5_init : Cond.instanceMethod ⟨"PictureJoin$Picture", "<init>", "()V"⟩ ∈ jws := jm (List.mem_of_getElem? (i := 86) (by decide +kernel)) (by decide +kernel)
set_option maxRecDepth 100000 in
theorem wc_X5_init : Cond.code yX5_init cX5_init 1 (none : Option FieldType) ∈ jws := jm (List.mem_of_getElem? (i := 87) (by rfl)) (by rfl)
theorem wn_X5_isJoined : Cond.instanceMethod ⟨"PictureJoin$Picture", "isJoined", "()Z"⟩ ∈ jws := jm (List.mem_of_getElem? (i := 489) (by decide +kernel)) (by decide +kernel)
theorem wv_X5_isJoined : Cond.selects "PictureJoin$Picture" ⟨"PictureJoin$Picture", "isJoined", "()Z"⟩ ⟨"PictureJoin$Picture", "isJoined", "()Z"⟩ ∈ jws := jm (List.mem_of_getElem? (i := 490) (by decide +kernel)) (by decide +kernel)
set_option maxRecDepth 100000 in
theorem wc_X5_isJoined : Cond.code yX5_isJoined cX5_isJoined 1 (some FieldType.boolean) ∈ jws := jm (List.mem_of_getElem? (i := 491) (by rfl)) (by rfl)
theorem wn_X5_dotAt : Cond.instanceMethod ⟨"PictureJoin$Picture", "dotAt", "(II)I"⟩ ∈ jws := jm (List.mem_of_getElem? (i := 569) (by decide +kernel)) (by decide +kernel)
theorem wv_X5_dotAt : Cond.selects "PictureJoin$Picture" ⟨"PictureJoin$Picture", "dotAt", "(II)I"⟩ ⟨"PictureJoin$Picture", "dotAt", "(II)I"⟩ ∈ jws := jm (List.mem_of_getElem? (i := 570) (by decide +kernel)) (by decide +kernel)
set_option maxRecDepth 100000 in
theorem wc_X5_dotAt : Cond.code yX5_dotAt cX5_dotAt 3 (some FieldType.int) ∈ jws := jm (List.mem_of_getElem? (i := 571) (by rfl)) (by rfl)
theorem wn_X5_edge : Cond.instanceMethod ⟨"PictureJoin$Picture", "edge", "(I)I"⟩ ∈ jws := jm (List.mem_of_getElem? (i := 549) (by decide +kernel)) (by decide +kernel)
theorem wv_X5_edge : Cond.selects "PictureJoin$Picture" ⟨"PictureJoin$Picture", "edge", "(I)I"⟩ ⟨"PictureJoin$Picture", "edge", "(I)I"⟩ ∈ jws := jm (List.mem_of_getElem? (i := 550) (by decide +kernel)) (by decide +kernel)
set_option maxRecDepth 100000 in
theorem wc_X5_edge : Cond.code yX5_edge cX5_edge 2 (some FieldType.int) ∈ jws := jm (List.mem_of_getElem? (i := 551) (by rfl)) (by rfl)
theorem wn_X6_init : Cond.instanceMethod ⟨"PictureJoin$Seam", "<init>", "()V"⟩ ∈ jws := jm (List.mem_of_getElem? (i := 277) (by decide +kernel)) (by decide +kernel)
set_option maxRecDepth 100000 in
theorem wc_X6_init : Cond.code yX6_init cX6_init 1 (none : Option FieldType) ∈ jws := jm (List.mem_of_getElem? (i := 278) (by rfl)) (by rfl)
theorem wn_X6_find : Cond.instanceMethod ⟨"PictureJoin$Seam", "find", "(LPictureJoin$Overlap;LPictureJoin$Picture;LPictureJoin$Picture;)V"⟩ ∈ jws := jm (List.mem_of_getElem? (i := 579) (by decide +kernel)) (by decide +kernel)
theorem wv_X6_find : Cond.selects "PictureJoin$Seam" ⟨"PictureJoin$Seam", "find", "(LPictureJoin$Overlap;LPictureJoin$Picture;LPictureJoin$Picture;)V"⟩ ⟨"PictureJoin$Seam", "find", "(LPictureJoin$Overlap;LPictureJoin$Picture;LPictureJoin$Picture;)V"⟩ ∈ jws := jm (List.mem_of_getElem? (i := 580) (by decide +kernel)) (by decide +kernel)
set_option maxRecDepth 100000 in
theorem wc_X6_find : Cond.code yX6_find cX6_find 10 (none : Option FieldType) ∈ jws := jm (List.mem_of_getElem? (i := 581) (by rfl)) (by rfl)
theorem ws_X6_unlikeness : Cond.static ⟨"PictureJoin$Seam", "unlikeness", "(LPictureJoin$Picture;LPictureJoin$Picture;II)I"⟩ ∈ jws := jm (List.mem_of_getElem? (i := 583) (by decide +kernel)) (by decide +kernel)
set_option maxRecDepth 100000 in
theorem wc_X6_unlikeness : Cond.code yX6_unlikeness cX6_unlikeness 6 (some FieldType.int) ∈ jws := jm (List.mem_of_getElem? (i := 584) (by rfl)) (by rfl)
theorem wn_X6_costAt : Cond.instanceMethod ⟨"PictureJoin$Seam", "costAt", "(II)I"⟩ ∈ jws := jm (List.mem_of_getElem? (i := 596) (by decide +kernel)) (by decide +kernel)
theorem wv_X6_costAt : Cond.selects "PictureJoin$Seam" ⟨"PictureJoin$Seam", "costAt", "(II)I"⟩ ⟨"PictureJoin$Seam", "costAt", "(II)I"⟩ ∈ jws := jm (List.mem_of_getElem? (i := 15) (by decide +kernel)) (by decide +kernel)
set_option maxRecDepth 100000 in
theorem wc_X6_costAt : Cond.code yX6_costAt cX6_costAt 3 (some FieldType.int) ∈ jws := jm (List.mem_of_getElem? (i := 597) (by rfl)) (by rfl)
theorem wn_X6_cheapest : Cond.instanceMethod ⟨"PictureJoin$Seam", "cheapest", "(IIII)I"⟩ ∈ jws := jm (List.mem_of_getElem? (i := 591) (by decide +kernel)) (by decide +kernel)
theorem wv_X6_cheapest : Cond.selects "PictureJoin$Seam" ⟨"PictureJoin$Seam", "cheapest", "(IIII)I"⟩ ⟨"PictureJoin$Seam", "cheapest", "(IIII)I"⟩ ∈ jws := jm (List.mem_of_getElem? (i := 14) (by decide +kernel)) (by decide +kernel)
set_option maxRecDepth 100000 in
theorem wc_X6_cheapest : Cond.code yX6_cheapest cX6_cheapest 7 (some FieldType.int) ∈ jws := jm (List.mem_of_getElem? (i := 592) (by rfl)) (by rfl)
theorem wn_X7_init : Cond.instanceMethod ⟨"PictureJoin$World", "<init>", "()V"⟩ ∈ jws := jm (List.mem_of_getElem? (i := 66) (by decide +kernel)) (by decide +kernel)
set_option maxRecDepth 100000 in
theorem wc_X7_init : Cond.code yX7_init cX7_init 1 (none : Option FieldType) ∈ jws := jm (List.mem_of_getElem? (i := 67) (by rfl)) (by rfl)
theorem wn_X7_lightAt : Cond.instanceMethod ⟨"PictureJoin$World", "lightAt", "(II)I"⟩ ∈ jws := jm (List.mem_of_getElem? (i := 323) (by decide +kernel)) (by decide +kernel)
theorem wv_X7_lightAt : Cond.selects "PictureJoin$World" ⟨"PictureJoin$World", "lightAt", "(II)I"⟩ ⟨"PictureJoin$World", "lightAt", "(II)I"⟩ ∈ jws := jm (List.mem_of_getElem? (i := 324) (by decide +kernel)) (by decide +kernel)
set_option maxRecDepth 100000 in
theorem wc_X7_lightAt : Cond.code yX7_lightAt cX7_lightAt 4 (some FieldType.int) ∈ jws := jm (List.mem_of_getElem? (i := 325) (by rfl)) (by rfl)
theorem wn_X7_shootInto : Cond.instanceMethod ⟨"PictureJoin$World", "shootInto", "(LPictureJoin$Dots;III)V"⟩ ∈ jws := jm (List.mem_of_getElem? (i := 342) (by decide +kernel)) (by decide +kernel)
theorem wv_X7_shootInto : Cond.selects "PictureJoin$World" ⟨"PictureJoin$World", "shootInto", "(LPictureJoin$Dots;III)V"⟩ ⟨"PictureJoin$World", "shootInto", "(LPictureJoin$Dots;III)V"⟩ ∈ jws := jm (List.mem_of_getElem? (i := 343) (by decide +kernel)) (by decide +kernel)
set_option maxRecDepth 100000 in
theorem wc_X7_shootInto : Cond.code yX7_shootInto cX7_shootInto 7 (none : Option FieldType) ∈ jws := jm (List.mem_of_getElem? (i := 344) (by rfl)) (by rfl)
theorem wn_X8_init : Cond.instanceMethod ⟨"PictureJoin", "<init>", "()V"⟩ ∈ jws := jm (List.mem_of_getElem? (i := 58) (by decide +kernel)) (by decide +kernel)
set_option maxRecDepth 100000 in
theorem wc_X8_init : Cond.code yX8_init cX8_init 1 (none : Option FieldType) ∈ jws := jm (List.mem_of_getElem? (i := 59) (by rfl)) (by rfl)
theorem wn_X8_seed : Cond.instanceMethod ⟨"PictureJoin", "seed", "(I)I"⟩ ∈ jws := jm (List.mem_of_getElem? (i := 312) (by decide +kernel)) (by decide +kernel)
theorem wv_X8_seed : Cond.selects "PictureJoin" ⟨"PictureJoin", "seed", "(I)I"⟩ ⟨"PictureJoin", "seed", "(I)I"⟩ ∈ jws := jm (List.mem_of_getElem? (i := 313) (by decide +kernel)) (by decide +kernel)
set_option maxRecDepth 100000 in
theorem wc_X8_seed : Cond.code yX8_seed cX8_seed 3 (some FieldType.int) ∈ jws := jm (List.mem_of_getElem? (i := 314) (by rfl)) (by rfl)
theorem wn_X8_light : Cond.instanceMethod ⟨"PictureJoin", "light", "(II)I"⟩ ∈ jws := jm (List.mem_of_getElem? (i := 316) (by decide +kernel)) (by decide +kernel)
theorem wv_X8_light : Cond.selects "PictureJoin" ⟨"PictureJoin", "light", "(II)I"⟩ ⟨"PictureJoin", "light", "(II)I"⟩ ∈ jws := jm (List.mem_of_getElem? (i := 317) (by decide +kernel)) (by decide +kernel)
set_option maxRecDepth 100000 in
theorem wc_X8_light : Cond.code yX8_light cX8_light 4 (some FieldType.int) ∈ jws := jm (List.mem_of_getElem? (i := 318) (by rfl)) (by rfl)
theorem wn_X8_shoot : Cond.instanceMethod ⟨"PictureJoin", "shoot", "(IIIII)I"⟩ ∈ jws := jm (List.mem_of_getElem? (i := 331) (by decide +kernel)) (by decide +kernel)
theorem wv_X8_shoot : Cond.selects "PictureJoin" ⟨"PictureJoin", "shoot", "(IIIII)I"⟩ ⟨"PictureJoin", "shoot", "(IIIII)I"⟩ ∈ jws := jm (List.mem_of_getElem? (i := 332) (by decide +kernel)) (by decide +kernel)
set_option maxRecDepth 100000 in
theorem wc_X8_shoot : Cond.code yX8_shoot cX8_shoot 8 (some FieldType.int) ∈ jws := jm (List.mem_of_getElem? (i := 333) (by rfl)) (by rfl)
theorem wn_X8_clear : Cond.instanceMethod ⟨"PictureJoin", "clear", "()I"⟩ ∈ jws := jm (List.mem_of_getElem? (i := 356) (by decide +kernel)) (by decide +kernel)
theorem wv_X8_clear : Cond.selects "PictureJoin" ⟨"PictureJoin", "clear", "()I"⟩ ⟨"PictureJoin", "clear", "()I"⟩ ∈ jws := jm (List.mem_of_getElem? (i := 357) (by decide +kernel)) (by decide +kernel)
set_option maxRecDepth 100000 in
theorem wc_X8_clear : Cond.code yX8_clear cX8_clear 2 (some FieldType.int) ∈ jws := jm (List.mem_of_getElem? (i := 358) (by rfl)) (by rfl)
theorem wn_X8_dot : Cond.instanceMethod ⟨"PictureJoin", "dot", "(IIII)I"⟩ ∈ jws := jm (List.mem_of_getElem? (i := 360) (by decide +kernel)) (by decide +kernel)
theorem wv_X8_dot : Cond.selects "PictureJoin" ⟨"PictureJoin", "dot", "(IIII)I"⟩ ⟨"PictureJoin", "dot", "(IIII)I"⟩ ∈ jws := jm (List.mem_of_getElem? (i := 361) (by decide +kernel)) (by decide +kernel)
set_option maxRecDepth 100000 in
theorem wc_X8_dot : Cond.code yX8_dot cX8_dot 7 (some FieldType.int) ∈ jws := jm (List.mem_of_getElem? (i := 362) (by rfl)) (by rfl)
theorem wn_X8_at : Cond.instanceMethod ⟨"PictureJoin", "at", "(III)I"⟩ ∈ jws := jm (List.mem_of_getElem? (i := 380) (by decide +kernel)) (by decide +kernel)
theorem wv_X8_at : Cond.selects "PictureJoin" ⟨"PictureJoin", "at", "(III)I"⟩ ⟨"PictureJoin", "at", "(III)I"⟩ ∈ jws := jm (List.mem_of_getElem? (i := 381) (by decide +kernel)) (by decide +kernel)
set_option maxRecDepth 100000 in
theorem wc_X8_at : Cond.code yX8_at cX8_at 4 (some FieldType.int) ∈ jws := jm (List.mem_of_getElem? (i := 382) (by rfl)) (by rfl)
theorem wn_X8_rules : Cond.instanceMethod ⟨"PictureJoin", "rules", "(II)I"⟩ ∈ jws := jm (List.mem_of_getElem? (i := 384) (by decide +kernel)) (by decide +kernel)
theorem wv_X8_rules : Cond.selects "PictureJoin" ⟨"PictureJoin", "rules", "(II)I"⟩ ⟨"PictureJoin", "rules", "(II)I"⟩ ∈ jws := jm (List.mem_of_getElem? (i := 385) (by decide +kernel)) (by decide +kernel)
set_option maxRecDepth 100000 in
theorem wc_X8_rules : Cond.code yX8_rules cX8_rules 3 (some FieldType.int) ∈ jws := jm (List.mem_of_getElem? (i := 386) (by rfl)) (by rfl)
theorem wn_X8_score : Cond.instanceMethod ⟨"PictureJoin", "score", "(III)I"⟩ ∈ jws := jm (List.mem_of_getElem? (i := 389) (by decide +kernel)) (by decide +kernel)
theorem wv_X8_score : Cond.selects "PictureJoin" ⟨"PictureJoin", "score", "(III)I"⟩ ⟨"PictureJoin", "score", "(III)I"⟩ ∈ jws := jm (List.mem_of_getElem? (i := 390) (by decide +kernel)) (by decide +kernel)
set_option maxRecDepth 100000 in
theorem wc_X8_score : Cond.code yX8_score cX8_score 4 (some FieldType.int) ∈ jws := jm (List.mem_of_getElem? (i := 391) (by rfl)) (by rfl)
theorem wn_X8_marks : Cond.instanceMethod ⟨"PictureJoin", "marks", "(I)I"⟩ ∈ jws := jm (List.mem_of_getElem? (i := 408) (by decide +kernel)) (by decide +kernel)
theorem wv_X8_marks : Cond.selects "PictureJoin" ⟨"PictureJoin", "marks", "(I)I"⟩ ⟨"PictureJoin", "marks", "(I)I"⟩ ∈ jws := jm (List.mem_of_getElem? (i := 409) (by decide +kernel)) (by decide +kernel)
set_option maxRecDepth 100000 in
theorem wc_X8_marks : Cond.code yX8_marks cX8_marks 2 (some FieldType.int) ∈ jws := jm (List.mem_of_getElem? (i := 410) (by rfl)) (by rfl)
theorem wn_X8_mark : Cond.instanceMethod ⟨"PictureJoin", "mark", "(III)I"⟩ ∈ jws := jm (List.mem_of_getElem? (i := 493) (by decide +kernel)) (by decide +kernel)
theorem wv_X8_mark : Cond.selects "PictureJoin" ⟨"PictureJoin", "mark", "(III)I"⟩ ⟨"PictureJoin", "mark", "(III)I"⟩ ∈ jws := jm (List.mem_of_getElem? (i := 494) (by decide +kernel)) (by decide +kernel)
set_option maxRecDepth 100000 in
theorem wc_X8_mark : Cond.code yX8_mark cX8_mark 5 (some FieldType.int) ∈ jws := jm (List.mem_of_getElem? (i := 495) (by rfl)) (by rfl)
theorem wn_X8_match : Cond.instanceMethod ⟨"PictureJoin", "match", "(III)I"⟩ ∈ jws := jm (List.mem_of_getElem? (i := 501) (by decide +kernel)) (by decide +kernel)
theorem wv_X8_match : Cond.selects "PictureJoin" ⟨"PictureJoin", "match", "(III)I"⟩ ⟨"PictureJoin", "match", "(III)I"⟩ ∈ jws := jm (List.mem_of_getElem? (i := 502) (by decide +kernel)) (by decide +kernel)
set_option maxRecDepth 100000 in
theorem wc_X8_match : Cond.code yX8_match cX8_match 4 (some FieldType.int) ∈ jws := jm (List.mem_of_getElem? (i := 503) (by rfl)) (by rfl)
theorem wn_X8_shift : Cond.instanceMethod ⟨"PictureJoin", "shift", "(III)I"⟩ ∈ jws := jm (List.mem_of_getElem? (i := 510) (by decide +kernel)) (by decide +kernel)
theorem wv_X8_shift : Cond.selects "PictureJoin" ⟨"PictureJoin", "shift", "(III)I"⟩ ⟨"PictureJoin", "shift", "(III)I"⟩ ∈ jws := jm (List.mem_of_getElem? (i := 511) (by decide +kernel)) (by decide +kernel)
set_option maxRecDepth 100000 in
theorem wc_X8_shift : Cond.code yX8_shift cX8_shift 5 (some FieldType.int) ∈ jws := jm (List.mem_of_getElem? (i := 512) (by rfl)) (by rfl)
theorem wn_X8_place : Cond.instanceMethod ⟨"PictureJoin", "place", "(II)I"⟩ ∈ jws := jm (List.mem_of_getElem? (i := 515) (by decide +kernel)) (by decide +kernel)
theorem wv_X8_place : Cond.selects "PictureJoin" ⟨"PictureJoin", "place", "(II)I"⟩ ⟨"PictureJoin", "place", "(II)I"⟩ ∈ jws := jm (List.mem_of_getElem? (i := 516) (by decide +kernel)) (by decide +kernel)
set_option maxRecDepth 100000 in
theorem wc_X8_place : Cond.code yX8_place cX8_place 4 (some FieldType.int) ∈ jws := jm (List.mem_of_getElem? (i := 517) (by rfl)) (by rfl)
theorem wn_X8_open : Cond.instanceMethod ⟨"PictureJoin", "open", "()I"⟩ ∈ jws := jm (List.mem_of_getElem? (i := 520) (by decide +kernel)) (by decide +kernel)
theorem wv_X8_open : Cond.selects "PictureJoin" ⟨"PictureJoin", "open", "()I"⟩ ⟨"PictureJoin", "open", "()I"⟩ ∈ jws := jm (List.mem_of_getElem? (i := 521) (by decide +kernel)) (by decide +kernel)
set_option maxRecDepth 100000 in
theorem wc_X8_open : Cond.code yX8_open cX8_open 1 (some FieldType.int) ∈ jws := jm (List.mem_of_getElem? (i := 522) (by rfl)) (by rfl)
theorem wn_X8_joined : Cond.instanceMethod ⟨"PictureJoin", "joined", "()I"⟩ ∈ jws := jm (List.mem_of_getElem? (i := 532) (by decide +kernel)) (by decide +kernel)
theorem wv_X8_joined : Cond.selects "PictureJoin" ⟨"PictureJoin", "joined", "()I"⟩ ⟨"PictureJoin", "joined", "()I"⟩ ∈ jws := jm (List.mem_of_getElem? (i := 533) (by decide +kernel)) (by decide +kernel)
set_option maxRecDepth 100000 in
theorem wc_X8_joined : Cond.code yX8_joined cX8_joined 1 (some FieldType.int) ∈ jws := jm (List.mem_of_getElem? (i := 534) (by rfl)) (by rfl)
theorem wn_X8_overlap : Cond.instanceMethod ⟨"PictureJoin", "overlap", "(III)I"⟩ ∈ jws := jm (List.mem_of_getElem? (i := 536) (by decide +kernel)) (by decide +kernel)
theorem wv_X8_overlap : Cond.selects "PictureJoin" ⟨"PictureJoin", "overlap", "(III)I"⟩ ⟨"PictureJoin", "overlap", "(III)I"⟩ ∈ jws := jm (List.mem_of_getElem? (i := 537) (by decide +kernel)) (by decide +kernel)
set_option maxRecDepth 100000 in
theorem wc_X8_overlap : Cond.code yX8_overlap cX8_overlap 5 (some FieldType.int) ∈ jws := jm (List.mem_of_getElem? (i := 538) (by rfl)) (by rfl)
theorem wn_X8_lights : Cond.instanceMethod ⟨"PictureJoin", "lights", "(III)I"⟩ ∈ jws := jm (List.mem_of_getElem? (i := 561) (by decide +kernel)) (by decide +kernel)
theorem wv_X8_lights : Cond.selects "PictureJoin" ⟨"PictureJoin", "lights", "(III)I"⟩ ⟨"PictureJoin", "lights", "(III)I"⟩ ∈ jws := jm (List.mem_of_getElem? (i := 562) (by decide +kernel)) (by decide +kernel)
set_option maxRecDepth 100000 in
theorem wc_X8_lights : Cond.code yX8_lights cX8_lights 5 (some FieldType.int) ∈ jws := jm (List.mem_of_getElem? (i := 563) (by rfl)) (by rfl)
theorem wn_X8_seam : Cond.instanceMethod ⟨"PictureJoin", "seam", "(III)I"⟩ ∈ jws := jm (List.mem_of_getElem? (i := 574) (by decide +kernel)) (by decide +kernel)
theorem wv_X8_seam : Cond.selects "PictureJoin" ⟨"PictureJoin", "seam", "(III)I"⟩ ⟨"PictureJoin", "seam", "(III)I"⟩ ∈ jws := jm (List.mem_of_getElem? (i := 575) (by decide +kernel)) (by decide +kernel)
set_option maxRecDepth 100000 in
theorem wc_X8_seam : Cond.code yX8_seam cX8_seam 5 (some FieldType.int) ∈ jws := jm (List.mem_of_getElem? (i := 576) (by rfl)) (by rfl)
theorem wn_X8_whole : Cond.instanceMethod ⟨"PictureJoin", "whole", "(III)I"⟩ ∈ jws := jm (List.mem_of_getElem? (i := 599) (by decide +kernel)) (by decide +kernel)
theorem wv_X8_whole : Cond.selects "PictureJoin" ⟨"PictureJoin", "whole", "(III)I"⟩ ⟨"PictureJoin", "whole", "(III)I"⟩ ∈ jws := jm (List.mem_of_getElem? (i := 600) (by decide +kernel)) (by decide +kernel)
set_option maxRecDepth 100000 in
theorem wc_X8_whole : Cond.code yX8_whole cX8_whole 5 (some FieldType.int) ∈ jws := jm (List.mem_of_getElem? (i := 601) (by rfl)) (by rfl)
theorem wn_X8_extent : Cond.instanceMethod ⟨"PictureJoin", "extent", "(I)I"⟩ ∈ jws := jm (List.mem_of_getElem? (i := 609) (by decide +kernel)) (by decide +kernel)
theorem wv_X8_extent : Cond.selects "PictureJoin" ⟨"PictureJoin", "extent", "(I)I"⟩ ⟨"PictureJoin", "extent", "(I)I"⟩ ∈ jws := jm (List.mem_of_getElem? (i := 610) (by decide +kernel)) (by decide +kernel)
set_option maxRecDepth 100000 in
theorem wc_X8_extent : Cond.code yX8_extent cX8_extent 2 (some FieldType.int) ∈ jws := jm (List.mem_of_getElem? (i := 611) (by rfl)) (by rfl)
theorem wn_X8_told : Cond.instanceMethod ⟨"PictureJoin", "told", "(I)I"⟩ ∈ jws := jm (List.mem_of_getElem? (i := 625) (by decide +kernel)) (by decide +kernel)
theorem wv_X8_told : Cond.selects "PictureJoin" ⟨"PictureJoin", "told", "(I)I"⟩ ⟨"PictureJoin", "told", "(I)I"⟩ ∈ jws := jm (List.mem_of_getElem? (i := 626) (by decide +kernel)) (by decide +kernel)
set_option maxRecDepth 100000 in
theorem wc_X8_told : Cond.code yX8_told cX8_told 2 (some FieldType.int) ∈ jws := jm (List.mem_of_getElem? (i := 627) (by rfl)) (by rfl)
theorem ws_X8_within : Cond.static ⟨"PictureJoin", "within", "(III)Z"⟩ ∈ jws := jm (List.mem_of_getElem? (i := 320) (by decide +kernel)) (by decide +kernel)
set_option maxRecDepth 100000 in
theorem wc_X8_within : Cond.code yX8_within cX8_within 3 (some FieldType.boolean) ∈ jws := jm (List.mem_of_getElem? (i := 321) (by rfl)) (by rfl)
theorem wn_X8_isPicture : Cond.instanceMethod ⟨"PictureJoin", "isPicture", "(I)Z"⟩ ∈ jws := jm (List.mem_of_getElem? (i := 369) (by decide +kernel)) (by decide +kernel)
theorem wv_X8_isPicture : Cond.selects "PictureJoin" ⟨"PictureJoin", "isPicture", "(I)Z"⟩ ⟨"PictureJoin", "isPicture", "(I)Z"⟩ ∈ jws := jm (List.mem_of_getElem? (i := 1) (by decide +kernel)) (by decide +kernel)
set_option maxRecDepth 100000 in
theorem wc_X8_isPicture : Cond.code yX8_isPicture cX8_isPicture 2 (some FieldType.boolean) ∈ jws := jm (List.mem_of_getElem? (i := 370) (by rfl)) (by rfl)
theorem wn_X8_isDot : Cond.instanceMethod ⟨"PictureJoin", "isDot", "(III)Z"⟩ ∈ jws := jm (List.mem_of_getElem? (i := 365) (by decide +kernel)) (by decide +kernel)
theorem wv_X8_isDot : Cond.selects "PictureJoin" ⟨"PictureJoin", "isDot", "(III)Z"⟩ ⟨"PictureJoin", "isDot", "(III)Z"⟩ ∈ jws := jm (List.mem_of_getElem? (i := 0) (by decide +kernel)) (by decide +kernel)
set_option maxRecDepth 100000 in
theorem wc_X8_isDot : Cond.code yX8_isDot cX8_isDot 4 (some FieldType.boolean) ∈ jws := jm (List.mem_of_getElem? (i := 366) (by rfl)) (by rfl)
theorem wn_X8_isMark : Cond.instanceMethod ⟨"PictureJoin", "isMark", "(II)Z"⟩ ∈ jws := jm (List.mem_of_getElem? (i := 498) (by decide +kernel)) (by decide +kernel)
theorem wv_X8_isMark : Cond.selects "PictureJoin" ⟨"PictureJoin", "isMark", "(II)Z"⟩ ⟨"PictureJoin", "isMark", "(II)Z"⟩ ∈ jws := jm (List.mem_of_getElem? (i := 10) (by decide +kernel)) (by decide +kernel)
set_option maxRecDepth 100000 in
theorem wc_X8_isMark : Cond.code yX8_isMark cX8_isMark 3 (some FieldType.boolean) ∈ jws := jm (List.mem_of_getElem? (i := 499) (by rfl)) (by rfl)
theorem wn_X8_areTwo : Cond.instanceMethod ⟨"PictureJoin", "areTwo", "(II)Z"⟩ ∈ jws := jm (List.mem_of_getElem? (i := 506) (by decide +kernel)) (by decide +kernel)
theorem wv_X8_areTwo : Cond.selects "PictureJoin" ⟨"PictureJoin", "areTwo", "(II)Z"⟩ ⟨"PictureJoin", "areTwo", "(II)Z"⟩ ∈ jws := jm (List.mem_of_getElem? (i := 11) (by decide +kernel)) (by decide +kernel)
set_option maxRecDepth 100000 in
theorem wc_X8_areTwo : Cond.code yX8_areTwo cX8_areTwo 3 (some FieldType.boolean) ∈ jws := jm (List.mem_of_getElem? (i := 507) (by rfl)) (by rfl)
theorem wn_X8_refusalOfTwo : Cond.instanceMethod ⟨"PictureJoin", "refusalOfTwo", "(IIZ)I"⟩ ∈ jws := jm (List.mem_of_getElem? (i := 541) (by decide +kernel)) (by decide +kernel)
theorem wv_X8_refusalOfTwo : Cond.selects "PictureJoin" ⟨"PictureJoin", "refusalOfTwo", "(IIZ)I"⟩ ⟨"PictureJoin", "refusalOfTwo", "(IIZ)I"⟩ ∈ jws := jm (List.mem_of_getElem? (i := 13) (by decide +kernel)) (by decide +kernel)
set_option maxRecDepth 100000 in
theorem wc_X8_refusalOfTwo : Cond.code yX8_refusalOfTwo cX8_refusalOfTwo 4 (some FieldType.int) ∈ jws := jm (List.mem_of_getElem? (i := 542) (by rfl)) (by rfl)
theorem wn_X9_init : Cond.instanceMethod ⟨"PictureJoinModel", "<init>", "()V"⟩ ∈ jws := jm (List.mem_of_getElem? (i := 631) (by decide +kernel)) (by decide +kernel)
set_option maxRecDepth 100000 in
theorem wc_X9_init : Cond.code yX9_init cX9_init 1 (none : Option FieldType) ∈ jws := jm (List.mem_of_getElem? (i := 632) (by rfl)) (by rfl)
theorem ws_X9_in : Cond.static ⟨"PictureJoinModel", "in", "(III)Z"⟩ ∈ jws := jm (List.mem_of_getElem? (i := 725) (by decide +kernel)) (by decide +kernel)
set_option maxRecDepth 100000 in
theorem wc_X9_in : Cond.code yX9_in cX9_in 3 (some FieldType.boolean) ∈ jws := jm (List.mem_of_getElem? (i := 726) (by rfl)) (by rfl)
theorem wn_X9_isPicture : Cond.instanceMethod ⟨"PictureJoinModel", "isPicture", "(I)Z"⟩ ∈ jws := jm (List.mem_of_getElem? (i := 753) (by decide +kernel)) (by decide +kernel)
theorem wv_X9_isPicture : Cond.selects "PictureJoinModel" ⟨"PictureJoinModel", "isPicture", "(I)Z"⟩ ⟨"PictureJoinModel", "isPicture", "(I)Z"⟩ ∈ jws := jm (List.mem_of_getElem? (i := 18) (by decide +kernel)) (by decide +kernel)
set_option maxRecDepth 100000 in
theorem wc_X9_isPicture : Cond.code yX9_isPicture cX9_isPicture 2 (some FieldType.boolean) ∈ jws := jm (List.mem_of_getElem? (i := 754) (by rfl)) (by rfl)
theorem wn_X9_seed : Cond.instanceMethod ⟨"PictureJoinModel", "seed", "(I)I"⟩ ∈ jws := jm (List.mem_of_getElem? (i := 717) (by decide +kernel)) (by decide +kernel)
theorem wv_X9_seed : Cond.selects "PictureJoinModel" ⟨"PictureJoinModel", "seed", "(I)I"⟩ ⟨"PictureJoinModel", "seed", "(I)I"⟩ ∈ jws := jm (List.mem_of_getElem? (i := 718) (by decide +kernel)) (by decide +kernel)
set_option maxRecDepth 100000 in
theorem wc_X9_seed : Cond.code yX9_seed cX9_seed 3 (some FieldType.int) ∈ jws := jm (List.mem_of_getElem? (i := 719) (by rfl)) (by rfl)
theorem wn_X9_lightAt : Cond.instanceMethod ⟨"PictureJoinModel", "lightAt", "(II)I"⟩ ∈ jws := jm (List.mem_of_getElem? (i := 729) (by decide +kernel)) (by decide +kernel)
theorem wv_X9_lightAt : Cond.selects "PictureJoinModel" ⟨"PictureJoinModel", "lightAt", "(II)I"⟩ ⟨"PictureJoinModel", "lightAt", "(II)I"⟩ ∈ jws := jm (List.mem_of_getElem? (i := 16) (by decide +kernel)) (by decide +kernel)
set_option maxRecDepth 100000 in
theorem wc_X9_lightAt : Cond.code yX9_lightAt cX9_lightAt 4 (some FieldType.int) ∈ jws := jm (List.mem_of_getElem? (i := 730) (by rfl)) (by rfl)
theorem wn_X9_light : Cond.instanceMethod ⟨"PictureJoinModel", "light", "(II)I"⟩ ∈ jws := jm (List.mem_of_getElem? (i := 721) (by decide +kernel)) (by decide +kernel)
theorem wv_X9_light : Cond.selects "PictureJoinModel" ⟨"PictureJoinModel", "light", "(II)I"⟩ ⟨"PictureJoinModel", "light", "(II)I"⟩ ∈ jws := jm (List.mem_of_getElem? (i := 722) (by decide +kernel)) (by decide +kernel)
set_option maxRecDepth 100000 in
theorem wc_X9_light : Cond.code yX9_light cX9_light 3 (some FieldType.int) ∈ jws := jm (List.mem_of_getElem? (i := 723) (by rfl)) (by rfl)
theorem wn_X9_shoot : Cond.instanceMethod ⟨"PictureJoinModel", "shoot", "(IIIII)I"⟩ ∈ jws := jm (List.mem_of_getElem? (i := 736) (by decide +kernel)) (by decide +kernel)
theorem wv_X9_shoot : Cond.selects "PictureJoinModel" ⟨"PictureJoinModel", "shoot", "(IIIII)I"⟩ ⟨"PictureJoinModel", "shoot", "(IIIII)I"⟩ ∈ jws := jm (List.mem_of_getElem? (i := 737) (by decide +kernel)) (by decide +kernel)
set_option maxRecDepth 100000 in
theorem wc_X9_shoot : Cond.code yX9_shoot cX9_shoot 9 (some FieldType.int) ∈ jws := jm (List.mem_of_getElem? (i := 738) (by rfl)) (by rfl)
theorem wn_X9_clear : Cond.instanceMethod ⟨"PictureJoinModel", "clear", "()I"⟩ ∈ jws := jm (List.mem_of_getElem? (i := 740) (by decide +kernel)) (by decide +kernel)
theorem wv_X9_clear : Cond.selects "PictureJoinModel" ⟨"PictureJoinModel", "clear", "()I"⟩ ⟨"PictureJoinModel", "clear", "()I"⟩ ∈ jws := jm (List.mem_of_getElem? (i := 741) (by decide +kernel)) (by decide +kernel)
set_option maxRecDepth 100000 in
theorem wc_X9_clear : Cond.code yX9_clear cX9_clear 2 (some FieldType.int) ∈ jws := jm (List.mem_of_getElem? (i := 742) (by rfl)) (by rfl)
theorem wn_X9_isDot : Cond.instanceMethod ⟨"PictureJoinModel", "isDot", "(III)Z"⟩ ∈ jws := jm (List.mem_of_getElem? (i := 749) (by decide +kernel)) (by decide +kernel)
theorem wv_X9_isDot : Cond.selects "PictureJoinModel" ⟨"PictureJoinModel", "isDot", "(III)Z"⟩ ⟨"PictureJoinModel", "isDot", "(III)Z"⟩ ∈ jws := jm (List.mem_of_getElem? (i := 17) (by decide +kernel)) (by decide +kernel)
set_option maxRecDepth 100000 in
theorem wc_X9_isDot : Cond.code yX9_isDot cX9_isDot 4 (some FieldType.boolean) ∈ jws := jm (List.mem_of_getElem? (i := 750) (by rfl)) (by rfl)
theorem wn_X9_dotAt : Cond.instanceMethod ⟨"PictureJoinModel", "dotAt", "(III)I"⟩ ∈ jws := jm (List.mem_of_getElem? (i := 759) (by decide +kernel)) (by decide +kernel)
theorem wv_X9_dotAt : Cond.selects "PictureJoinModel" ⟨"PictureJoinModel", "dotAt", "(III)I"⟩ ⟨"PictureJoinModel", "dotAt", "(III)I"⟩ ∈ jws := jm (List.mem_of_getElem? (i := 19) (by decide +kernel)) (by decide +kernel)
set_option maxRecDepth 100000 in
theorem wc_X9_dotAt : Cond.code yX9_dotAt cX9_dotAt 4 (some FieldType.int) ∈ jws := jm (List.mem_of_getElem? (i := 760) (by rfl)) (by rfl)
theorem wn_X9_dot : Cond.instanceMethod ⟨"PictureJoinModel", "dot", "(IIII)I"⟩ ∈ jws := jm (List.mem_of_getElem? (i := 744) (by decide +kernel)) (by decide +kernel)
theorem wv_X9_dot : Cond.selects "PictureJoinModel" ⟨"PictureJoinModel", "dot", "(IIII)I"⟩ ⟨"PictureJoinModel", "dot", "(IIII)I"⟩ ∈ jws := jm (List.mem_of_getElem? (i := 745) (by decide +kernel)) (by decide +kernel)
set_option maxRecDepth 100000 in
theorem wc_X9_dot : Cond.code yX9_dot cX9_dot 6 (some FieldType.int) ∈ jws := jm (List.mem_of_getElem? (i := 746) (by rfl)) (by rfl)
theorem wn_X9_at : Cond.instanceMethod ⟨"PictureJoinModel", "at", "(III)I"⟩ ∈ jws := jm (List.mem_of_getElem? (i := 762) (by decide +kernel)) (by decide +kernel)
theorem wv_X9_at : Cond.selects "PictureJoinModel" ⟨"PictureJoinModel", "at", "(III)I"⟩ ⟨"PictureJoinModel", "at", "(III)I"⟩ ∈ jws := jm (List.mem_of_getElem? (i := 763) (by decide +kernel)) (by decide +kernel)
set_option maxRecDepth 100000 in
theorem wc_X9_at : Cond.code yX9_at cX9_at 4 (some FieldType.int) ∈ jws := jm (List.mem_of_getElem? (i := 764) (by rfl)) (by rfl)
theorem wn_X9_rules : Cond.instanceMethod ⟨"PictureJoinModel", "rules", "(II)I"⟩ ∈ jws := jm (List.mem_of_getElem? (i := 766) (by decide +kernel)) (by decide +kernel)
theorem wv_X9_rules : Cond.selects "PictureJoinModel" ⟨"PictureJoinModel", "rules", "(II)I"⟩ ⟨"PictureJoinModel", "rules", "(II)I"⟩ ∈ jws := jm (List.mem_of_getElem? (i := 767) (by decide +kernel)) (by decide +kernel)
set_option maxRecDepth 100000 in
theorem wc_X9_rules : Cond.code yX9_rules cX9_rules 3 (some FieldType.int) ∈ jws := jm (List.mem_of_getElem? (i := 768) (by rfl)) (by rfl)
theorem wn_X9_scoreOf : Cond.instanceMethod ⟨"PictureJoinModel", "scoreOf", "(III)I"⟩ ∈ jws := jm (List.mem_of_getElem? (i := 776) (by decide +kernel)) (by decide +kernel)
theorem wv_X9_scoreOf : Cond.selects "PictureJoinModel" ⟨"PictureJoinModel", "scoreOf", "(III)I"⟩ ⟨"PictureJoinModel", "scoreOf", "(III)I"⟩ ∈ jws := jm (List.mem_of_getElem? (i := 20) (by decide +kernel)) (by decide +kernel)
set_option maxRecDepth 100000 in
theorem wc_X9_scoreOf : Cond.code yX9_scoreOf cX9_scoreOf 14 (some FieldType.int) ∈ jws := jm (List.mem_of_getElem? (i := 777) (by rfl)) (by rfl)
theorem wn_X9_signOf : Cond.instanceMethod ⟨"PictureJoinModel", "signOf", "(III)I"⟩ ∈ jws := jm (List.mem_of_getElem? (i := 800) (by decide +kernel)) (by decide +kernel)
theorem wv_X9_signOf : Cond.selects "PictureJoinModel" ⟨"PictureJoinModel", "signOf", "(III)I"⟩ ⟨"PictureJoinModel", "signOf", "(III)I"⟩ ∈ jws := jm (List.mem_of_getElem? (i := 25) (by decide +kernel)) (by decide +kernel)
set_option maxRecDepth 100000 in
theorem wc_X9_signOf : Cond.code yX9_signOf cX9_signOf 8 (some FieldType.int) ∈ jws := jm (List.mem_of_getElem? (i := 801) (by rfl)) (by rfl)
theorem wn_X9_isMark : Cond.instanceMethod ⟨"PictureJoinModel", "isMark", "(III)Z"⟩ ∈ jws := jm (List.mem_of_getElem? (i := 792) (by decide +kernel)) (by decide +kernel)
theorem wv_X9_isMark : Cond.selects "PictureJoinModel" ⟨"PictureJoinModel", "isMark", "(III)Z"⟩ ⟨"PictureJoinModel", "isMark", "(III)Z"⟩ ∈ jws := jm (List.mem_of_getElem? (i := 23) (by decide +kernel)) (by decide +kernel)
set_option maxRecDepth 100000 in
theorem wc_X9_isMark : Cond.code yX9_isMark cX9_isMark 10 (some FieldType.boolean) ∈ jws := jm (List.mem_of_getElem? (i := 793) (by rfl)) (by rfl)
theorem wn_X9_layMarks : Cond.instanceMethod ⟨"PictureJoinModel", "layMarks", "(I)V"⟩ ∈ jws := jm (List.mem_of_getElem? (i := 788) (by decide +kernel)) (by decide +kernel)
theorem wv_X9_layMarks : Cond.selects "PictureJoinModel" ⟨"PictureJoinModel", "layMarks", "(I)V"⟩ ⟨"PictureJoinModel", "layMarks", "(I)V"⟩ ∈ jws := jm (List.mem_of_getElem? (i := 22) (by decide +kernel)) (by decide +kernel)
set_option maxRecDepth 100000 in
theorem wc_X9_layMarks : Cond.code yX9_layMarks cX9_layMarks 4 (none : Option FieldType) ∈ jws := jm (List.mem_of_getElem? (i := 789) (by rfl)) (by rfl)
theorem wn_X9_putMark : Cond.instanceMethod ⟨"PictureJoinModel", "putMark", "(II)V"⟩ ∈ jws := jm (List.mem_of_getElem? (i := 796) (by decide +kernel)) (by decide +kernel)
theorem wv_X9_putMark : Cond.selects "PictureJoinModel" ⟨"PictureJoinModel", "putMark", "(II)V"⟩ ⟨"PictureJoinModel", "putMark", "(II)V"⟩ ∈ jws := jm (List.mem_of_getElem? (i := 24) (by decide +kernel)) (by decide +kernel)
set_option maxRecDepth 100000 in
theorem wc_X9_putMark : Cond.code yX9_putMark cX9_putMark 6 (none : Option FieldType) ∈ jws := jm (List.mem_of_getElem? (i := 797) (by rfl)) (by rfl)
theorem ws_X9_bits : Cond.static ⟨"PictureJoinModel", "bits", "(I)I"⟩ ∈ jws := jm (List.mem_of_getElem? (i := 815) (by decide +kernel)) (by decide +kernel)
set_option maxRecDepth 100000 in
theorem wc_X9_bits : Cond.code yX9_bits cX9_bits 3 (some FieldType.int) ∈ jws := jm (List.mem_of_getElem? (i := 816) (by rfl)) (by rfl)
theorem wn_X9_distance : Cond.instanceMethod ⟨"PictureJoinModel", "distance", "(IIII)I"⟩ ∈ jws := jm (List.mem_of_getElem? (i := 812) (by decide +kernel)) (by decide +kernel)
theorem wv_X9_distance : Cond.selects "PictureJoinModel" ⟨"PictureJoinModel", "distance", "(IIII)I"⟩ ⟨"PictureJoinModel", "distance", "(IIII)I"⟩ ∈ jws := jm (List.mem_of_getElem? (i := 28) (by decide +kernel)) (by decide +kernel)
set_option maxRecDepth 100000 in
theorem wc_X9_distance : Cond.code yX9_distance cX9_distance 5 (some FieldType.int) ∈ jws := jm (List.mem_of_getElem? (i := 813) (by rfl)) (by rfl)
theorem wn_X9_nearest : Cond.instanceMethod ⟨"PictureJoinModel", "nearest", "(III)I"⟩ ∈ jws := jm (List.mem_of_getElem? (i := 808) (by decide +kernel)) (by decide +kernel)
theorem wv_X9_nearest : Cond.selects "PictureJoinModel" ⟨"PictureJoinModel", "nearest", "(III)I"⟩ ⟨"PictureJoinModel", "nearest", "(III)I"⟩ ∈ jws := jm (List.mem_of_getElem? (i := 27) (by decide +kernel)) (by decide +kernel)
set_option maxRecDepth 100000 in
theorem wc_X9_nearest : Cond.code yX9_nearest cX9_nearest 6 (some FieldType.int) ∈ jws := jm (List.mem_of_getElem? (i := 809) (by rfl)) (by rfl)
theorem wn_X9_markX : Cond.instanceMethod ⟨"PictureJoinModel", "markX", "(II)I"⟩ ∈ jws := jm (List.mem_of_getElem? (i := 819) (by decide +kernel)) (by decide +kernel)
theorem wv_X9_markX : Cond.selects "PictureJoinModel" ⟨"PictureJoinModel", "markX", "(II)I"⟩ ⟨"PictureJoinModel", "markX", "(II)I"⟩ ∈ jws := jm (List.mem_of_getElem? (i := 29) (by decide +kernel)) (by decide +kernel)
set_option maxRecDepth 100000 in
theorem wc_X9_markX : Cond.code yX9_markX cX9_markX 3 (some FieldType.int) ∈ jws := jm (List.mem_of_getElem? (i := 820) (by rfl)) (by rfl)
theorem wn_X9_markY : Cond.instanceMethod ⟨"PictureJoinModel", "markY", "(II)I"⟩ ∈ jws := jm (List.mem_of_getElem? (i := 823) (by decide +kernel)) (by decide +kernel)
theorem wv_X9_markY : Cond.selects "PictureJoinModel" ⟨"PictureJoinModel", "markY", "(II)I"⟩ ⟨"PictureJoinModel", "markY", "(II)I"⟩ ∈ jws := jm (List.mem_of_getElem? (i := 30) (by decide +kernel)) (by decide +kernel)
set_option maxRecDepth 100000 in
theorem wc_X9_markY : Cond.code yX9_markY cX9_markY 3 (some FieldType.int) ∈ jws := jm (List.mem_of_getElem? (i := 824) (by rfl)) (by rfl)
theorem wn_X9_layPair : Cond.instanceMethod ⟨"PictureJoinModel", "layPair", "(II)V"⟩ ∈ jws := jm (List.mem_of_getElem? (i := 804) (by decide +kernel)) (by decide +kernel)
theorem wv_X9_layPair : Cond.selects "PictureJoinModel" ⟨"PictureJoinModel", "layPair", "(II)V"⟩ ⟨"PictureJoinModel", "layPair", "(II)V"⟩ ∈ jws := jm (List.mem_of_getElem? (i := 26) (by decide +kernel)) (by decide +kernel)
set_option maxRecDepth 100000 in
theorem wc_X9_layPair : Cond.code yX9_layPair cX9_layPair 9 (none : Option FieldType) ∈ jws := jm (List.mem_of_getElem? (i := 805) (by rfl)) (by rfl)
theorem wn_X9_votesFor : Cond.instanceMethod ⟨"PictureJoinModel", "votesFor", "(IIII)I"⟩ ∈ jws := jm (List.mem_of_getElem? (i := 827) (by decide +kernel)) (by decide +kernel)
theorem wv_X9_votesFor : Cond.selects "PictureJoinModel" ⟨"PictureJoinModel", "votesFor", "(IIII)I"⟩ ⟨"PictureJoinModel", "votesFor", "(IIII)I"⟩ ∈ jws := jm (List.mem_of_getElem? (i := 31) (by decide +kernel)) (by decide +kernel)
set_option maxRecDepth 100000 in
theorem wc_X9_votesFor : Cond.code yX9_votesFor cX9_votesFor 9 (some FieldType.int) ∈ jws := jm (List.mem_of_getElem? (i := 828) (by rfl)) (by rfl)
theorem wn_X9_layPlaces : Cond.instanceMethod ⟨"PictureJoinModel", "layPlaces", "()V"⟩ ∈ jws := jm (List.mem_of_getElem? (i := 831) (by decide +kernel)) (by decide +kernel)
theorem wv_X9_layPlaces : Cond.selects "PictureJoinModel" ⟨"PictureJoinModel", "layPlaces", "()V"⟩ ⟨"PictureJoinModel", "layPlaces", "()V"⟩ ∈ jws := jm (List.mem_of_getElem? (i := 32) (by decide +kernel)) (by decide +kernel)
set_option maxRecDepth 100000 in
theorem wc_X9_layPlaces : Cond.code yX9_layPlaces cX9_layPlaces 7 (none : Option FieldType) ∈ jws := jm (List.mem_of_getElem? (i := 832) (by rfl)) (by rfl)
theorem wn_X9_lay : Cond.instanceMethod ⟨"PictureJoinModel", "lay", "()V"⟩ ∈ jws := jm (List.mem_of_getElem? (i := 784) (by decide +kernel)) (by decide +kernel)
theorem wv_X9_lay : Cond.selects "PictureJoinModel" ⟨"PictureJoinModel", "lay", "()V"⟩ ⟨"PictureJoinModel", "lay", "()V"⟩ ∈ jws := jm (List.mem_of_getElem? (i := 21) (by decide +kernel)) (by decide +kernel)
set_option maxRecDepth 100000 in
theorem wc_X9_lay : Cond.code yX9_lay cX9_lay 2 (none : Option FieldType) ∈ jws := jm (List.mem_of_getElem? (i := 785) (by rfl)) (by rfl)
theorem wn_X9_score : Cond.instanceMethod ⟨"PictureJoinModel", "score", "(III)I"⟩ ∈ jws := jm (List.mem_of_getElem? (i := 771) (by decide +kernel)) (by decide +kernel)
theorem wv_X9_score : Cond.selects "PictureJoinModel" ⟨"PictureJoinModel", "score", "(III)I"⟩ ⟨"PictureJoinModel", "score", "(III)I"⟩ ∈ jws := jm (List.mem_of_getElem? (i := 772) (by decide +kernel)) (by decide +kernel)
set_option maxRecDepth 100000 in
theorem wc_X9_score : Cond.code yX9_score cX9_score 4 (some FieldType.int) ∈ jws := jm (List.mem_of_getElem? (i := 773) (by rfl)) (by rfl)
theorem wn_X9_marks : Cond.instanceMethod ⟨"PictureJoinModel", "marks", "(I)I"⟩ ∈ jws := jm (List.mem_of_getElem? (i := 779) (by decide +kernel)) (by decide +kernel)
theorem wv_X9_marks : Cond.selects "PictureJoinModel" ⟨"PictureJoinModel", "marks", "(I)I"⟩ ⟨"PictureJoinModel", "marks", "(I)I"⟩ ∈ jws := jm (List.mem_of_getElem? (i := 780) (by decide +kernel)) (by decide +kernel)
set_option maxRecDepth 100000 in
theorem wc_X9_marks : Cond.code yX9_marks cX9_marks 2 (some FieldType.int) ∈ jws := jm (List.mem_of_getElem? (i := 781) (by rfl)) (by rfl)
theorem wn_X9_hasMark : Cond.instanceMethod ⟨"PictureJoinModel", "hasMark", "(II)Z"⟩ ∈ jws := jm (List.mem_of_getElem? (i := 839) (by decide +kernel)) (by decide +kernel)
theorem wv_X9_hasMark : Cond.selects "PictureJoinModel" ⟨"PictureJoinModel", "hasMark", "(II)Z"⟩ ⟨"PictureJoinModel", "hasMark", "(II)Z"⟩ ∈ jws := jm (List.mem_of_getElem? (i := 33) (by decide +kernel)) (by decide +kernel)
set_option maxRecDepth 100000 in
theorem wc_X9_hasMark : Cond.code yX9_hasMark cX9_hasMark 3 (some FieldType.boolean) ∈ jws := jm (List.mem_of_getElem? (i := 840) (by rfl)) (by rfl)
theorem wn_X9_mark : Cond.instanceMethod ⟨"PictureJoinModel", "mark", "(III)I"⟩ ∈ jws := jm (List.mem_of_getElem? (i := 834) (by decide +kernel)) (by decide +kernel)
theorem wv_X9_mark : Cond.selects "PictureJoinModel" ⟨"PictureJoinModel", "mark", "(III)I"⟩ ⟨"PictureJoinModel", "mark", "(III)I"⟩ ∈ jws := jm (List.mem_of_getElem? (i := 835) (by decide +kernel)) (by decide +kernel)
set_option maxRecDepth 100000 in
theorem wc_X9_mark : Cond.code yX9_mark cX9_mark 4 (some FieldType.int) ∈ jws := jm (List.mem_of_getElem? (i := 836) (by rfl)) (by rfl)
theorem wn_X9_match : Cond.instanceMethod ⟨"PictureJoinModel", "match", "(III)I"⟩ ∈ jws := jm (List.mem_of_getElem? (i := 842) (by decide +kernel)) (by decide +kernel)
theorem wv_X9_match : Cond.selects "PictureJoinModel" ⟨"PictureJoinModel", "match", "(III)I"⟩ ⟨"PictureJoinModel", "match", "(III)I"⟩ ∈ jws := jm (List.mem_of_getElem? (i := 843) (by decide +kernel)) (by decide +kernel)
set_option maxRecDepth 100000 in
theorem wc_X9_match : Cond.code yX9_match cX9_match 4 (some FieldType.int) ∈ jws := jm (List.mem_of_getElem? (i := 844) (by rfl)) (by rfl)
theorem wn_X9_arePair : Cond.instanceMethod ⟨"PictureJoinModel", "arePair", "(II)Z"⟩ ∈ jws := jm (List.mem_of_getElem? (i := 851) (by decide +kernel)) (by decide +kernel)
theorem wv_X9_arePair : Cond.selects "PictureJoinModel" ⟨"PictureJoinModel", "arePair", "(II)Z"⟩ ⟨"PictureJoinModel", "arePair", "(II)Z"⟩ ∈ jws := jm (List.mem_of_getElem? (i := 34) (by decide +kernel)) (by decide +kernel)
set_option maxRecDepth 100000 in
theorem wc_X9_arePair : Cond.code yX9_arePair cX9_arePair 3 (some FieldType.boolean) ∈ jws := jm (List.mem_of_getElem? (i := 852) (by rfl)) (by rfl)
theorem wn_X9_shift : Cond.instanceMethod ⟨"PictureJoinModel", "shift", "(III)I"⟩ ∈ jws := jm (List.mem_of_getElem? (i := 846) (by decide +kernel)) (by decide +kernel)
theorem wv_X9_shift : Cond.selects "PictureJoinModel" ⟨"PictureJoinModel", "shift", "(III)I"⟩ ⟨"PictureJoinModel", "shift", "(III)I"⟩ ∈ jws := jm (List.mem_of_getElem? (i := 847) (by decide +kernel)) (by decide +kernel)
set_option maxRecDepth 100000 in
theorem wc_X9_shift : Cond.code yX9_shift cX9_shift 5 (some FieldType.int) ∈ jws := jm (List.mem_of_getElem? (i := 848) (by rfl)) (by rfl)
theorem wn_X9_place : Cond.instanceMethod ⟨"PictureJoinModel", "place", "(II)I"⟩ ∈ jws := jm (List.mem_of_getElem? (i := 855) (by decide +kernel)) (by decide +kernel)
theorem wv_X9_place : Cond.selects "PictureJoinModel" ⟨"PictureJoinModel", "place", "(II)I"⟩ ⟨"PictureJoinModel", "place", "(II)I"⟩ ∈ jws := jm (List.mem_of_getElem? (i := 856) (by decide +kernel)) (by decide +kernel)
set_option maxRecDepth 100000 in
theorem wc_X9_place : Cond.code yX9_place cX9_place 3 (some FieldType.int) ∈ jws := jm (List.mem_of_getElem? (i := 857) (by rfl)) (by rfl)
theorem wn_X9_open : Cond.instanceMethod ⟨"PictureJoinModel", "open", "()I"⟩ ∈ jws := jm (List.mem_of_getElem? (i := 859) (by decide +kernel)) (by decide +kernel)
theorem wv_X9_open : Cond.selects "PictureJoinModel" ⟨"PictureJoinModel", "open", "()I"⟩ ⟨"PictureJoinModel", "open", "()I"⟩ ∈ jws := jm (List.mem_of_getElem? (i := 860) (by decide +kernel)) (by decide +kernel)
set_option maxRecDepth 100000 in
theorem wc_X9_open : Cond.code yX9_open cX9_open 7 (some FieldType.int) ∈ jws := jm (List.mem_of_getElem? (i := 861) (by rfl)) (by rfl)
theorem wn_X9_joined : Cond.instanceMethod ⟨"PictureJoinModel", "joined", "()I"⟩ ∈ jws := jm (List.mem_of_getElem? (i := 863) (by decide +kernel)) (by decide +kernel)
theorem wv_X9_joined : Cond.selects "PictureJoinModel" ⟨"PictureJoinModel", "joined", "()I"⟩ ⟨"PictureJoinModel", "joined", "()I"⟩ ∈ jws := jm (List.mem_of_getElem? (i := 864) (by decide +kernel)) (by decide +kernel)
set_option maxRecDepth 100000 in
theorem wc_X9_joined : Cond.code yX9_joined cX9_joined 1 (some FieldType.int) ∈ jws := jm (List.mem_of_getElem? (i := 865) (by rfl)) (by rfl)
theorem wn_X9_layOverlap : Cond.instanceMethod ⟨"PictureJoinModel", "layOverlap", "(II)V"⟩ ∈ jws := jm (List.mem_of_getElem? (i := 876) (by decide +kernel)) (by decide +kernel)
theorem wv_X9_layOverlap : Cond.selects "PictureJoinModel" ⟨"PictureJoinModel", "layOverlap", "(II)V"⟩ ⟨"PictureJoinModel", "layOverlap", "(II)V"⟩ ∈ jws := jm (List.mem_of_getElem? (i := 36) (by decide +kernel)) (by decide +kernel)
set_option maxRecDepth 100000 in
theorem wc_X9_layOverlap : Cond.code yX9_layOverlap cX9_layOverlap 7 (none : Option FieldType) ∈ jws := jm (List.mem_of_getElem? (i := 877) (by rfl)) (by rfl)
theorem wn_X9_barsOverlap : Cond.instanceMethod ⟨"PictureJoinModel", "barsOverlap", "(IIZ)I"⟩ ∈ jws := jm (List.mem_of_getElem? (i := 872) (by decide +kernel)) (by decide +kernel)
theorem wv_X9_barsOverlap : Cond.selects "PictureJoinModel" ⟨"PictureJoinModel", "barsOverlap", "(IIZ)I"⟩ ⟨"PictureJoinModel", "barsOverlap", "(IIZ)I"⟩ ∈ jws := jm (List.mem_of_getElem? (i := 35) (by decide +kernel)) (by decide +kernel)
set_option maxRecDepth 100000 in
theorem wc_X9_barsOverlap : Cond.code yX9_barsOverlap cX9_barsOverlap 4 (some FieldType.int) ∈ jws := jm (List.mem_of_getElem? (i := 873) (by rfl)) (by rfl)
theorem wn_X9_overlap : Cond.instanceMethod ⟨"PictureJoinModel", "overlap", "(III)I"⟩ ∈ jws := jm (List.mem_of_getElem? (i := 867) (by decide +kernel)) (by decide +kernel)
theorem wv_X9_overlap : Cond.selects "PictureJoinModel" ⟨"PictureJoinModel", "overlap", "(III)I"⟩ ⟨"PictureJoinModel", "overlap", "(III)I"⟩ ∈ jws := jm (List.mem_of_getElem? (i := 868) (by decide +kernel)) (by decide +kernel)
set_option maxRecDepth 100000 in
theorem wc_X9_overlap : Cond.code yX9_overlap cX9_overlap 5 (some FieldType.int) ∈ jws := jm (List.mem_of_getElem? (i := 869) (by rfl)) (by rfl)
theorem wn_X9_dotOver : Cond.instanceMethod ⟨"PictureJoinModel", "dotOver", "(III)I"⟩ ∈ jws := jm (List.mem_of_getElem? (i := 885) (by decide +kernel)) (by decide +kernel)
theorem wv_X9_dotOver : Cond.selects "PictureJoinModel" ⟨"PictureJoinModel", "dotOver", "(III)I"⟩ ⟨"PictureJoinModel", "dotOver", "(III)I"⟩ ∈ jws := jm (List.mem_of_getElem? (i := 37) (by decide +kernel)) (by decide +kernel)
set_option maxRecDepth 100000 in
theorem wc_X9_dotOver : Cond.code yX9_dotOver cX9_dotOver 4 (some FieldType.int) ∈ jws := jm (List.mem_of_getElem? (i := 886) (by rfl)) (by rfl)
theorem wn_X9_lights : Cond.instanceMethod ⟨"PictureJoinModel", "lights", "(III)I"⟩ ∈ jws := jm (List.mem_of_getElem? (i := 880) (by decide +kernel)) (by decide +kernel)
theorem wv_X9_lights : Cond.selects "PictureJoinModel" ⟨"PictureJoinModel", "lights", "(III)I"⟩ ⟨"PictureJoinModel", "lights", "(III)I"⟩ ∈ jws := jm (List.mem_of_getElem? (i := 881) (by decide +kernel)) (by decide +kernel)
set_option maxRecDepth 100000 in
theorem wc_X9_lights : Cond.code yX9_lights cX9_lights 9 (some FieldType.int) ∈ jws := jm (List.mem_of_getElem? (i := 882) (by rfl)) (by rfl)
theorem wn_X9_leastAt : Cond.instanceMethod ⟨"PictureJoinModel", "leastAt", "(II)I"⟩ ∈ jws := jm (List.mem_of_getElem? (i := 897) (by decide +kernel)) (by decide +kernel)
theorem wv_X9_leastAt : Cond.selects "PictureJoinModel" ⟨"PictureJoinModel", "leastAt", "(II)I"⟩ ⟨"PictureJoinModel", "leastAt", "(II)I"⟩ ∈ jws := jm (List.mem_of_getElem? (i := 39) (by decide +kernel)) (by decide +kernel)
set_option maxRecDepth 100000 in
theorem wc_X9_leastAt : Cond.code yX9_leastAt cX9_leastAt 3 (some FieldType.int) ∈ jws := jm (List.mem_of_getElem? (i := 898) (by rfl)) (by rfl)
theorem wn_X9_below : Cond.instanceMethod ⟨"PictureJoinModel", "below", "(II)I"⟩ ∈ jws := jm (List.mem_of_getElem? (i := 893) (by decide +kernel)) (by decide +kernel)
theorem wv_X9_below : Cond.selects "PictureJoinModel" ⟨"PictureJoinModel", "below", "(II)I"⟩ ⟨"PictureJoinModel", "below", "(II)I"⟩ ∈ jws := jm (List.mem_of_getElem? (i := 38) (by decide +kernel)) (by decide +kernel)
set_option maxRecDepth 100000 in
theorem wc_X9_below : Cond.code yX9_below cX9_below 6 (some FieldType.int) ∈ jws := jm (List.mem_of_getElem? (i := 894) (by rfl)) (by rfl)
theorem wn_X9_seam : Cond.instanceMethod ⟨"PictureJoinModel", "seam", "(III)I"⟩ ∈ jws := jm (List.mem_of_getElem? (i := 888) (by decide +kernel)) (by decide +kernel)
theorem wv_X9_seam : Cond.selects "PictureJoinModel" ⟨"PictureJoinModel", "seam", "(III)I"⟩ ⟨"PictureJoinModel", "seam", "(III)I"⟩ ∈ jws := jm (List.mem_of_getElem? (i := 889) (by decide +kernel)) (by decide +kernel)
set_option maxRecDepth 100000 in
theorem wc_X9_seam : Cond.code yX9_seam cX9_seam 10 (some FieldType.int) ∈ jws := jm (List.mem_of_getElem? (i := 890) (by rfl)) (by rfl)
theorem wn_X9_pictureAt : Cond.instanceMethod ⟨"PictureJoinModel", "pictureAt", "(II)I"⟩ ∈ jws := jm (List.mem_of_getElem? (i := 905) (by decide +kernel)) (by decide +kernel)
theorem wv_X9_pictureAt : Cond.selects "PictureJoinModel" ⟨"PictureJoinModel", "pictureAt", "(II)I"⟩ ⟨"PictureJoinModel", "pictureAt", "(II)I"⟩ ∈ jws := jm (List.mem_of_getElem? (i := 40) (by decide +kernel)) (by decide +kernel)
set_option maxRecDepth 100000 in
theorem wc_X9_pictureAt : Cond.code yX9_pictureAt cX9_pictureAt 6 (some FieldType.int) ∈ jws := jm (List.mem_of_getElem? (i := 906) (by rfl)) (by rfl)
theorem wn_X9_whole : Cond.instanceMethod ⟨"PictureJoinModel", "whole", "(III)I"⟩ ∈ jws := jm (List.mem_of_getElem? (i := 900) (by decide +kernel)) (by decide +kernel)
theorem wv_X9_whole : Cond.selects "PictureJoinModel" ⟨"PictureJoinModel", "whole", "(III)I"⟩ ⟨"PictureJoinModel", "whole", "(III)I"⟩ ∈ jws := jm (List.mem_of_getElem? (i := 901) (by decide +kernel)) (by decide +kernel)
set_option maxRecDepth 100000 in
theorem wc_X9_whole : Cond.code yX9_whole cX9_whole 5 (some FieldType.int) ∈ jws := jm (List.mem_of_getElem? (i := 902) (by rfl)) (by rfl)
theorem wn_X9_edge : Cond.instanceMethod ⟨"PictureJoinModel", "edge", "(I)I"⟩ ∈ jws := jm (List.mem_of_getElem? (i := 913) (by decide +kernel)) (by decide +kernel)
theorem wv_X9_edge : Cond.selects "PictureJoinModel" ⟨"PictureJoinModel", "edge", "(I)I"⟩ ⟨"PictureJoinModel", "edge", "(I)I"⟩ ∈ jws := jm (List.mem_of_getElem? (i := 41) (by decide +kernel)) (by decide +kernel)
set_option maxRecDepth 100000 in
theorem wc_X9_edge : Cond.code yX9_edge cX9_edge 6 (some FieldType.int) ∈ jws := jm (List.mem_of_getElem? (i := 914) (by rfl)) (by rfl)
theorem wn_X9_extent : Cond.instanceMethod ⟨"PictureJoinModel", "extent", "(I)I"⟩ ∈ jws := jm (List.mem_of_getElem? (i := 908) (by decide +kernel)) (by decide +kernel)
theorem wv_X9_extent : Cond.selects "PictureJoinModel" ⟨"PictureJoinModel", "extent", "(I)I"⟩ ⟨"PictureJoinModel", "extent", "(I)I"⟩ ∈ jws := jm (List.mem_of_getElem? (i := 909) (by decide +kernel)) (by decide +kernel)
set_option maxRecDepth 100000 in
theorem wc_X9_extent : Cond.code yX9_extent cX9_extent 5 (some FieldType.int) ∈ jws := jm (List.mem_of_getElem? (i := 910) (by rfl)) (by rfl)
theorem wn_X9_told : Cond.instanceMethod ⟨"PictureJoinModel", "told", "(I)I"⟩ ∈ jws := jm (List.mem_of_getElem? (i := 916) (by decide +kernel)) (by decide +kernel)
theorem wv_X9_told : Cond.selects "PictureJoinModel" ⟨"PictureJoinModel", "told", "(I)I"⟩ ⟨"PictureJoinModel", "told", "(I)I"⟩ ∈ jws := jm (List.mem_of_getElem? (i := 917) (by decide +kernel)) (by decide +kernel)
set_option maxRecDepth 100000 in
theorem wc_X9_told : Cond.code yX9_told cX9_told 2 (some FieldType.int) ∈ jws := jm (List.mem_of_getElem? (i := 918) (by rfl)) (by rfl)
theorem ws_J6_bitCount_0f7a4 : Cond.static ⟨"java/lang/Integer", "bitCount", "(I)I"⟩ ∈ jws := jm (List.mem_of_getElem? (i := 458) (by decide +kernel)) (by decide +kernel)
set_option maxRecDepth 100000 in
theorem wc_J6_bitCount_0f7a4 : Cond.code yJ6_bitCount_0f7a4 cJ6_bitCount_0f7a4 1 (some FieldType.int) ∈ jws := jm (List.mem_of_getElem? (i := 459) (by rfl)) (by rfl)
theorem ws_J9_abs_0f7a4 : Cond.static ⟨"java/lang/Math", "abs", "(I)I"⟩ ∈ jws := jm (List.mem_of_getElem? (i := 587) (by decide +kernel)) (by decide +kernel)
set_option maxRecDepth 100000 in
theorem wc_J9_abs_0f7a4 : Cond.code yJ9_abs_0f7a4 cJ9_abs_0f7a4 1 (some FieldType.int) ∈ jws := jm (List.mem_of_getElem? (i := 588) (by rfl)) (by rfl)
theorem ws_J9_max_7cf53 : Cond.static ⟨"java/lang/Math", "max", "(II)I"⟩ ∈ jws := jm (List.mem_of_getElem? (i := 553) (by decide +kernel)) (by decide +kernel)
set_option maxRecDepth 100000 in
theorem wc_J9_max_7cf53 : Cond.code yJ9_max_7cf53 cJ9_max_7cf53 2 (some FieldType.int) ∈ jws := jm (List.mem_of_getElem? (i := 554) (by rfl)) (by rfl)
theorem ws_J9_min_7cf53 : Cond.static ⟨"java/lang/Math", "min", "(II)I"⟩ ∈ jws := jm (List.mem_of_getElem? (i := 339) (by decide +kernel)) (by decide +kernel)
set_option maxRecDepth 100000 in
theorem wc_J9_min_7cf53 : Cond.code yJ9_min_7cf53 cJ9_min_7cf53 2 (some FieldType.int) ∈ jws := jm (List.mem_of_getElem? (i := 340) (by rfl)) (by rfl)
theorem wl_X0_0 : Cond.laysFinal "PictureJoin$Album" "PictureJoin$Album" "pictures" "[LPictureJoin$Picture;" ∈ jws := jm (List.mem_of_getElem? (i := 222) (by decide +kernel)) (by decide +kernel)
theorem wl_X0_1 : Cond.laysFinal "PictureJoin$Album" "PictureJoin$Album" "pairings" "[LPictureJoin$Pairing;" ∈ jws := jm (List.mem_of_getElem? (i := 224) (by decide +kernel)) (by decide +kernel)
theorem wl_X0_2 : Cond.laysFinal "PictureJoin$Album" "PictureJoin$Album" "order" "[I" ∈ jws := jm (List.mem_of_getElem? (i := 226) (by decide +kernel)) (by decide +kernel)
theorem wl_X0_3 : Cond.lays "PictureJoin$Album" "PictureJoin$Album" "count" "I" ∈ jws := jm (List.mem_of_getElem? (i := 228) (by decide +kernel)) (by decide +kernel)
theorem wl_X0_4 : Cond.lays "PictureJoin$Album" "PictureJoin$Album" "joinedCount" "I" ∈ jws := jm (List.mem_of_getElem? (i := 230) (by decide +kernel)) (by decide +kernel)
theorem wl_X0_5 : Cond.lays "PictureJoin$Album" "PictureJoin$Album" "stale" "Z" ∈ jws := jm (List.mem_of_getElem? (i := 232) (by decide +kernel)) (by decide +kernel)
theorem ft_X0 : FT 0 RX0 TX0 6 tyX0 := ⟨rfl, fun w hw => by
  obtain ⟨j, hj, rfl⟩ := List.mem_map.mp hw
  have hj := List.mem_range.mp hj
  rcases (show j = 0 ∨ j = 1 ∨ j = 2 ∨ j = 3 ∨ j = 4 ∨ j = 5 by omega) with rfl | rfl | rfl | rfl | rfl | rfl
  · exact wl_X0_0
  · exact wl_X0_1
  · exact wl_X0_2
  · exact wl_X0_3
  · exact wl_X0_4
  · exact wl_X0_5, tyX0_ok, nmX0⟩
theorem wl_X1_0 : Cond.laysFinal "PictureJoin$Dots" "PictureJoin$Dots" "values" "[I" ∈ jws := jm (List.mem_of_getElem? (i := 110) (by decide +kernel)) (by decide +kernel)
theorem wl_X1_1 : Cond.laysFinal "PictureJoin$Dots" "PictureJoin$Dots" "scores" "[I" ∈ jws := jm (List.mem_of_getElem? (i := 112) (by decide +kernel)) (by decide +kernel)
theorem wl_X1_2 : Cond.lays "PictureJoin$Dots" "PictureJoin$Dots" "width" "I" ∈ jws := jm (List.mem_of_getElem? (i := 114) (by decide +kernel)) (by decide +kernel)
theorem wl_X1_3 : Cond.lays "PictureJoin$Dots" "PictureJoin$Dots" "height" "I" ∈ jws := jm (List.mem_of_getElem? (i := 116) (by decide +kernel)) (by decide +kernel)
theorem wl_X1_4 : Cond.lays "PictureJoin$Dots" "PictureJoin$Dots" "changed" "Z" ∈ jws := jm (List.mem_of_getElem? (i := 118) (by decide +kernel)) (by decide +kernel)
theorem ft_X1 : FT 1 RX1 TX1 5 tyX1 := ⟨rfl, fun w hw => by
  obtain ⟨j, hj, rfl⟩ := List.mem_map.mp hw
  have hj := List.mem_range.mp hj
  rcases (show j = 0 ∨ j = 1 ∨ j = 2 ∨ j = 3 ∨ j = 4 by omega) with rfl | rfl | rfl | rfl | rfl
  · exact wl_X1_0
  · exact wl_X1_1
  · exact wl_X1_2
  · exact wl_X1_3
  · exact wl_X1_4, tyX1_ok, nmX1⟩
theorem wl_X2_0 : Cond.laysFinal "PictureJoin$Marks" "PictureJoin$Marks" "columns" "[I" ∈ jws := jm (List.mem_of_getElem? (i := 142) (by decide +kernel)) (by decide +kernel)
theorem wl_X2_1 : Cond.laysFinal "PictureJoin$Marks" "PictureJoin$Marks" "rows" "[I" ∈ jws := jm (List.mem_of_getElem? (i := 144) (by decide +kernel)) (by decide +kernel)
theorem wl_X2_2 : Cond.laysFinal "PictureJoin$Marks" "PictureJoin$Marks" "heights" "[I" ∈ jws := jm (List.mem_of_getElem? (i := 146) (by decide +kernel)) (by decide +kernel)
theorem wl_X2_3 : Cond.laysFinal "PictureJoin$Marks" "PictureJoin$Marks" "signs" "[I" ∈ jws := jm (List.mem_of_getElem? (i := 148) (by decide +kernel)) (by decide +kernel)
theorem wl_X2_4 : Cond.lays "PictureJoin$Marks" "PictureJoin$Marks" "count" "I" ∈ jws := jm (List.mem_of_getElem? (i := 150) (by decide +kernel)) (by decide +kernel)
theorem ft_X2 : FT 2 RX2 TX2 5 tyX2 := ⟨rfl, fun w hw => by
  obtain ⟨j, hj, rfl⟩ := List.mem_map.mp hw
  have hj := List.mem_range.mp hj
  rcases (show j = 0 ∨ j = 1 ∨ j = 2 ∨ j = 3 ∨ j = 4 by omega) with rfl | rfl | rfl | rfl | rfl
  · exact wl_X2_0
  · exact wl_X2_1
  · exact wl_X2_2
  · exact wl_X2_3
  · exact wl_X2_4, tyX2_ok, nmX2⟩
theorem wl_X3_0 : Cond.lays "PictureJoin$Overlap" "PictureJoin$Overlap" "x" "I" ∈ jws := jm (List.mem_of_getElem? (i := 259) (by decide +kernel)) (by decide +kernel)
theorem wl_X3_1 : Cond.lays "PictureJoin$Overlap" "PictureJoin$Overlap" "y" "I" ∈ jws := jm (List.mem_of_getElem? (i := 261) (by decide +kernel)) (by decide +kernel)
theorem wl_X3_2 : Cond.lays "PictureJoin$Overlap" "PictureJoin$Overlap" "width" "I" ∈ jws := jm (List.mem_of_getElem? (i := 263) (by decide +kernel)) (by decide +kernel)
theorem wl_X3_3 : Cond.lays "PictureJoin$Overlap" "PictureJoin$Overlap" "height" "I" ∈ jws := jm (List.mem_of_getElem? (i := 265) (by decide +kernel)) (by decide +kernel)
theorem wl_X3_4 : Cond.lays "PictureJoin$Overlap" "PictureJoin$Overlap" "firstLight" "I" ∈ jws := jm (List.mem_of_getElem? (i := 267) (by decide +kernel)) (by decide +kernel)
theorem wl_X3_5 : Cond.lays "PictureJoin$Overlap" "PictureJoin$Overlap" "secondLight" "I" ∈ jws := jm (List.mem_of_getElem? (i := 269) (by decide +kernel)) (by decide +kernel)
theorem wl_X3_6 : Cond.lays "PictureJoin$Overlap" "PictureJoin$Overlap" "bothTold" "I" ∈ jws := jm (List.mem_of_getElem? (i := 271) (by decide +kernel)) (by decide +kernel)
theorem ft_X3 : FT 3 RX3 TX3 7 tyX3 := ⟨rfl, fun w hw => by
  obtain ⟨j, hj, rfl⟩ := List.mem_map.mp hw
  have hj := List.mem_range.mp hj
  rcases (show j = 0 ∨ j = 1 ∨ j = 2 ∨ j = 3 ∨ j = 4 ∨ j = 5 ∨ j = 6 by omega) with rfl | rfl | rfl | rfl | rfl | rfl | rfl
  · exact wl_X3_0
  · exact wl_X3_1
  · exact wl_X3_2
  · exact wl_X3_3
  · exact wl_X3_4
  · exact wl_X3_5
  · exact wl_X3_6, tyX3_ok, nmX3⟩
theorem wl_X4_0 : Cond.laysFinal "PictureJoin$Pairing" "PictureJoin$Pairing" "partners" "[I" ∈ jws := jm (List.mem_of_getElem? (i := 201) (by decide +kernel)) (by decide +kernel)
theorem wl_X4_1 : Cond.lays "PictureJoin$Pairing" "PictureJoin$Pairing" "matches" "I" ∈ jws := jm (List.mem_of_getElem? (i := 203) (by decide +kernel)) (by decide +kernel)
theorem wl_X4_2 : Cond.lays "PictureJoin$Pairing" "PictureJoin$Pairing" "votes" "I" ∈ jws := jm (List.mem_of_getElem? (i := 205) (by decide +kernel)) (by decide +kernel)
theorem wl_X4_3 : Cond.lays "PictureJoin$Pairing" "PictureJoin$Pairing" "x" "I" ∈ jws := jm (List.mem_of_getElem? (i := 207) (by decide +kernel)) (by decide +kernel)
theorem wl_X4_4 : Cond.lays "PictureJoin$Pairing" "PictureJoin$Pairing" "y" "I" ∈ jws := jm (List.mem_of_getElem? (i := 209) (by decide +kernel)) (by decide +kernel)
theorem ft_X4 : FT 4 RX4 TX4 5 tyX4 := ⟨rfl, fun w hw => by
  obtain ⟨j, hj, rfl⟩ := List.mem_map.mp hw
  have hj := List.mem_range.mp hj
  rcases (show j = 0 ∨ j = 1 ∨ j = 2 ∨ j = 3 ∨ j = 4 by omega) with rfl | rfl | rfl | rfl | rfl
  · exact wl_X4_0
  · exact wl_X4_1
  · exact wl_X4_2
  · exact wl_X4_3
  · exact wl_X4_4, tyX4_ok, nmX4⟩
theorem wl_X5_0 : Cond.laysFinal "PictureJoin$Picture" "PictureJoin$Picture" "dots" "LPictureJoin$Dots;" ∈ jws := jm (List.mem_of_getElem? (i := 170) (by decide +kernel)) (by decide +kernel)
theorem wl_X5_1 : Cond.laysFinal "PictureJoin$Picture" "PictureJoin$Picture" "marks" "LPictureJoin$Marks;" ∈ jws := jm (List.mem_of_getElem? (i := 172) (by decide +kernel)) (by decide +kernel)
theorem wl_X5_2 : Cond.lays "PictureJoin$Picture" "PictureJoin$Picture" "x" "I" ∈ jws := jm (List.mem_of_getElem? (i := 174) (by decide +kernel)) (by decide +kernel)
theorem wl_X5_3 : Cond.lays "PictureJoin$Picture" "PictureJoin$Picture" "y" "I" ∈ jws := jm (List.mem_of_getElem? (i := 176) (by decide +kernel)) (by decide +kernel)
theorem wl_X5_4 : Cond.lays "PictureJoin$Picture" "PictureJoin$Picture" "joiner" "I" ∈ jws := jm (List.mem_of_getElem? (i := 178) (by decide +kernel)) (by decide +kernel)
theorem wl_X5_5 : Cond.lays "PictureJoin$Picture" "PictureJoin$Picture" "rank" "I" ∈ jws := jm (List.mem_of_getElem? (i := 180) (by decide +kernel)) (by decide +kernel)
theorem ft_X5 : FT 5 RX5 TX5 6 tyX5 := ⟨rfl, fun w hw => by
  obtain ⟨j, hj, rfl⟩ := List.mem_map.mp hw
  have hj := List.mem_range.mp hj
  rcases (show j = 0 ∨ j = 1 ∨ j = 2 ∨ j = 3 ∨ j = 4 ∨ j = 5 by omega) with rfl | rfl | rfl | rfl | rfl | rfl
  · exact wl_X5_0
  · exact wl_X5_1
  · exact wl_X5_2
  · exact wl_X5_3
  · exact wl_X5_4
  · exact wl_X5_5, tyX5_ok, nmX5⟩
theorem wl_X6_0 : Cond.laysFinal "PictureJoin$Seam" "PictureJoin$Seam" "costs" "[I" ∈ jws := jm (List.mem_of_getElem? (i := 285) (by decide +kernel)) (by decide +kernel)
theorem wl_X6_1 : Cond.laysFinal "PictureJoin$Seam" "PictureJoin$Seam" "columns" "[I" ∈ jws := jm (List.mem_of_getElem? (i := 287) (by decide +kernel)) (by decide +kernel)
theorem wl_X6_2 : Cond.lays "PictureJoin$Seam" "PictureJoin$Seam" "cost" "I" ∈ jws := jm (List.mem_of_getElem? (i := 289) (by decide +kernel)) (by decide +kernel)
theorem ft_X6 : FT 6 RX6 TX6 3 tyX6 := ⟨rfl, fun w hw => by
  obtain ⟨j, hj, rfl⟩ := List.mem_map.mp hw
  have hj := List.mem_range.mp hj
  rcases (show j = 0 ∨ j = 1 ∨ j = 2 by omega) with rfl | rfl | rfl
  · exact wl_X6_0
  · exact wl_X6_1
  · exact wl_X6_2, tyX6_ok, nmX6⟩
theorem wl_X7_0 : Cond.lays "PictureJoin$World" "PictureJoin$World" "seed" "I" ∈ jws := jm (List.mem_of_getElem? (i := 71) (by decide +kernel)) (by decide +kernel)
theorem ft_X7 : FT 7 RX7 TX7 1 tyX7 := ⟨rfl, fun w hw => by
  obtain ⟨j, hj, rfl⟩ := List.mem_map.mp hw
  have hj := List.mem_range.mp hj
  rcases (show j = 0 by omega) with rfl
  · exact wl_X7_0, tyX7_ok, nmX7⟩
theorem wl_X8_0 : Cond.laysFinal "PictureJoin" "PictureJoin" "world" "LPictureJoin$World;" ∈ jws := jm (List.mem_of_getElem? (i := 298) (by decide +kernel)) (by decide +kernel)
theorem wl_X8_1 : Cond.laysFinal "PictureJoin" "PictureJoin" "album" "LPictureJoin$Album;" ∈ jws := jm (List.mem_of_getElem? (i := 300) (by decide +kernel)) (by decide +kernel)
theorem wl_X8_2 : Cond.laysFinal "PictureJoin" "PictureJoin" "common" "LPictureJoin$Overlap;" ∈ jws := jm (List.mem_of_getElem? (i := 302) (by decide +kernel)) (by decide +kernel)
theorem wl_X8_3 : Cond.laysFinal "PictureJoin" "PictureJoin" "cut" "LPictureJoin$Seam;" ∈ jws := jm (List.mem_of_getElem? (i := 304) (by decide +kernel)) (by decide +kernel)
theorem wl_X8_4 : Cond.lays "PictureJoin" "PictureJoin" "bar" "I" ∈ jws := jm (List.mem_of_getElem? (i := 306) (by decide +kernel)) (by decide +kernel)
theorem wl_X8_5 : Cond.lays "PictureJoin" "PictureJoin" "near" "I" ∈ jws := jm (List.mem_of_getElem? (i := 308) (by decide +kernel)) (by decide +kernel)
theorem ft_X8 : FT 8 RX8 TX8 6 tyX8 := ⟨rfl, fun w hw => by
  obtain ⟨j, hj, rfl⟩ := List.mem_map.mp hw
  have hj := List.mem_range.mp hj
  rcases (show j = 0 ∨ j = 1 ∨ j = 2 ∨ j = 3 ∨ j = 4 ∨ j = 5 by omega) with rfl | rfl | rfl | rfl | rfl | rfl
  · exact wl_X8_0
  · exact wl_X8_1
  · exact wl_X8_2
  · exact wl_X8_3
  · exact wl_X8_4
  · exact wl_X8_5, tyX8_ok, nmX8⟩
theorem wl_X9_0 : Cond.lays "PictureJoinModel" "PictureJoinModel" "seed" "I" ∈ jws := jm (List.mem_of_getElem? (i := 661) (by decide +kernel)) (by decide +kernel)
theorem wl_X9_1 : Cond.lays "PictureJoinModel" "PictureJoinModel" "pictures" "I" ∈ jws := jm (List.mem_of_getElem? (i := 663) (by decide +kernel)) (by decide +kernel)
theorem wl_X9_2 : Cond.laysFinal "PictureJoinModel" "PictureJoinModel" "wide" "[I" ∈ jws := jm (List.mem_of_getElem? (i := 665) (by decide +kernel)) (by decide +kernel)
theorem wl_X9_3 : Cond.laysFinal "PictureJoinModel" "PictureJoinModel" "high" "[I" ∈ jws := jm (List.mem_of_getElem? (i := 667) (by decide +kernel)) (by decide +kernel)
theorem wl_X9_4 : Cond.laysFinal "PictureJoinModel" "PictureJoinModel" "dots" "[I" ∈ jws := jm (List.mem_of_getElem? (i := 669) (by decide +kernel)) (by decide +kernel)
theorem wl_X9_5 : Cond.lays "PictureJoinModel" "PictureJoinModel" "bar" "I" ∈ jws := jm (List.mem_of_getElem? (i := 671) (by decide +kernel)) (by decide +kernel)
theorem wl_X9_6 : Cond.lays "PictureJoinModel" "PictureJoinModel" "near" "I" ∈ jws := jm (List.mem_of_getElem? (i := 673) (by decide +kernel)) (by decide +kernel)
theorem wl_X9_7 : Cond.lays "PictureJoinModel" "PictureJoinModel" "isLaid" "Z" ∈ jws := jm (List.mem_of_getElem? (i := 675) (by decide +kernel)) (by decide +kernel)
theorem wl_X9_8 : Cond.laysFinal "PictureJoinModel" "PictureJoinModel" "score" "[I" ∈ jws := jm (List.mem_of_getElem? (i := 677) (by decide +kernel)) (by decide +kernel)
theorem wl_X9_9 : Cond.laysFinal "PictureJoinModel" "PictureJoinModel" "marks" "[I" ∈ jws := jm (List.mem_of_getElem? (i := 679) (by decide +kernel)) (by decide +kernel)
theorem wl_X9_10 : Cond.laysFinal "PictureJoinModel" "PictureJoinModel" "markAt" "[I" ∈ jws := jm (List.mem_of_getElem? (i := 681) (by decide +kernel)) (by decide +kernel)
theorem wl_X9_11 : Cond.laysFinal "PictureJoinModel" "PictureJoinModel" "sign" "[I" ∈ jws := jm (List.mem_of_getElem? (i := 683) (by decide +kernel)) (by decide +kernel)
theorem wl_X9_12 : Cond.laysFinal "PictureJoinModel" "PictureJoinModel" "match" "[I" ∈ jws := jm (List.mem_of_getElem? (i := 685) (by decide +kernel)) (by decide +kernel)
theorem wl_X9_13 : Cond.laysFinal "PictureJoinModel" "PictureJoinModel" "shiftX" "[I" ∈ jws := jm (List.mem_of_getElem? (i := 687) (by decide +kernel)) (by decide +kernel)
theorem wl_X9_14 : Cond.laysFinal "PictureJoinModel" "PictureJoinModel" "shiftY" "[I" ∈ jws := jm (List.mem_of_getElem? (i := 689) (by decide +kernel)) (by decide +kernel)
theorem wl_X9_15 : Cond.laysFinal "PictureJoinModel" "PictureJoinModel" "votes" "[I" ∈ jws := jm (List.mem_of_getElem? (i := 691) (by decide +kernel)) (by decide +kernel)
theorem wl_X9_16 : Cond.laysFinal "PictureJoinModel" "PictureJoinModel" "matches" "[I" ∈ jws := jm (List.mem_of_getElem? (i := 693) (by decide +kernel)) (by decide +kernel)
theorem wl_X9_17 : Cond.lays "PictureJoinModel" "PictureJoinModel" "joined" "I" ∈ jws := jm (List.mem_of_getElem? (i := 695) (by decide +kernel)) (by decide +kernel)
theorem wl_X9_18 : Cond.laysFinal "PictureJoinModel" "PictureJoinModel" "placeX" "[I" ∈ jws := jm (List.mem_of_getElem? (i := 697) (by decide +kernel)) (by decide +kernel)
theorem wl_X9_19 : Cond.laysFinal "PictureJoinModel" "PictureJoinModel" "placeY" "[I" ∈ jws := jm (List.mem_of_getElem? (i := 699) (by decide +kernel)) (by decide +kernel)
theorem wl_X9_20 : Cond.laysFinal "PictureJoinModel" "PictureJoinModel" "by" "[I" ∈ jws := jm (List.mem_of_getElem? (i := 701) (by decide +kernel)) (by decide +kernel)
theorem wl_X9_21 : Cond.laysFinal "PictureJoinModel" "PictureJoinModel" "order" "[I" ∈ jws := jm (List.mem_of_getElem? (i := 703) (by decide +kernel)) (by decide +kernel)
theorem wl_X9_22 : Cond.lays "PictureJoinModel" "PictureJoinModel" "overX" "I" ∈ jws := jm (List.mem_of_getElem? (i := 705) (by decide +kernel)) (by decide +kernel)
theorem wl_X9_23 : Cond.lays "PictureJoinModel" "PictureJoinModel" "overY" "I" ∈ jws := jm (List.mem_of_getElem? (i := 707) (by decide +kernel)) (by decide +kernel)
theorem wl_X9_24 : Cond.lays "PictureJoinModel" "PictureJoinModel" "overWide" "I" ∈ jws := jm (List.mem_of_getElem? (i := 709) (by decide +kernel)) (by decide +kernel)
theorem wl_X9_25 : Cond.lays "PictureJoinModel" "PictureJoinModel" "overHigh" "I" ∈ jws := jm (List.mem_of_getElem? (i := 711) (by decide +kernel)) (by decide +kernel)
theorem wl_X9_26 : Cond.laysFinal "PictureJoinModel" "PictureJoinModel" "least" "[I" ∈ jws := jm (List.mem_of_getElem? (i := 713) (by decide +kernel)) (by decide +kernel)
theorem ft_X9 : FT 9 RX9 TX9 27 tyX9 := ⟨rfl, fun w hw => by
  obtain ⟨j, hj, rfl⟩ := List.mem_map.mp hw
  have hj := List.mem_range.mp hj
  rcases (show j = 0 ∨ j = 1 ∨ j = 2 ∨ j = 3 ∨ j = 4 ∨ j = 5 ∨ j = 6 ∨ j = 7 ∨ j = 8 ∨ j = 9 ∨ j = 10 ∨ j = 11 ∨ j = 12 ∨ j = 13 ∨ j = 14 ∨ j = 15 ∨ j = 16 ∨ j = 17 ∨ j = 18 ∨ j = 19 ∨ j = 20 ∨ j = 21 ∨ j = 22 ∨ j = 23 ∨ j = 24 ∨ j = 25 ∨ j = 26 by omega) with rfl | rfl | rfl | rfl | rfl | rfl | rfl | rfl | rfl | rfl | rfl | rfl | rfl | rfl | rfl | rfl | rfl | rfl | rfl | rfl | rfl | rfl | rfl | rfl | rfl | rfl | rfl
  · exact wl_X9_0
  · exact wl_X9_1
  · exact wl_X9_2
  · exact wl_X9_3
  · exact wl_X9_4
  · exact wl_X9_5
  · exact wl_X9_6
  · exact wl_X9_7
  · exact wl_X9_8
  · exact wl_X9_9
  · exact wl_X9_10
  · exact wl_X9_11
  · exact wl_X9_12
  · exact wl_X9_13
  · exact wl_X9_14
  · exact wl_X9_15
  · exact wl_X9_16
  · exact wl_X9_17
  · exact wl_X9_18
  · exact wl_X9_19
  · exact wl_X9_20
  · exact wl_X9_21
  · exact wl_X9_22
  · exact wl_X9_23
  · exact wl_X9_24
  · exact wl_X9_25
  · exact wl_X9_26, tyX9_ok, nmX9⟩
theorem yb_X0_init : YB yX0_init cX0_init 2 (none : Option FieldType) 0 := ⟨wc_X0_init, wi_X0, by decide +kernel, by decide +kernel, by decide +kernel⟩
theorem yb_X0_pairingOf : YB yX0_pairingOf cX0_pairingOf 3 (some (FieldType.object "PictureJoin$Pairing")) 2 := ⟨wc_X0_pairingOf, wi_X0, by decide +kernel, by decide +kernel, by decide +kernel⟩
theorem yv_X0_pairingOf : YV yX0_pairingOf := ⟨wn_X0_pairingOf, wv_X0_pairingOf⟩
theorem yb_X0_settle : YB yX0_settle cX0_settle 5 (none : Option FieldType) 2 := ⟨wc_X0_settle, wi_X0, by decide +kernel, by decide +kernel, by decide +kernel⟩
theorem yv_X0_settle : YV yX0_settle := ⟨wn_X0_settle, wv_X0_settle⟩
theorem yb_X0_joinAll : YB yX0_joinAll cX0_joinAll 4 (none : Option FieldType) 0 := ⟨wc_X0_joinAll, wi_X0, by decide +kernel, by decide +kernel, by decide +kernel⟩
theorem yv_X0_joinAll : YV yX0_joinAll := ⟨wn_X0_joinAll, wv_X0_joinAll⟩
theorem yb_X0_put : YB yX0_put cX0_put 6 (none : Option FieldType) 4 := ⟨wc_X0_put, wi_X0, by decide +kernel, by decide +kernel, by decide +kernel⟩
theorem yv_X0_put : YV yX0_put := ⟨wn_X0_put, wv_X0_put⟩
theorem yb_X0_bestPair : YB yX0_bestPair cX0_bestPair 6 (some FieldType.int) 0 := ⟨wc_X0_bestPair, wi_X0, by decide +kernel, by decide +kernel, by decide +kernel⟩
theorem yv_X0_bestPair : YV yX0_bestPair := ⟨wn_X0_bestPair, wv_X0_bestPair⟩
theorem yb_X0_countOpen : YB yX0_countOpen cX0_countOpen 4 (some FieldType.int) 0 := ⟨wc_X0_countOpen, wi_X0, by decide +kernel, by decide +kernel, by decide +kernel⟩
theorem yv_X0_countOpen : YV yX0_countOpen := ⟨wn_X0_countOpen, wv_X0_countOpen⟩
theorem yb_X0_isOpen : YB yX0_isOpen cX0_isOpen 6 (some FieldType.boolean) 2 := ⟨wc_X0_isOpen, wi_X0, by decide +kernel, by decide +kernel, by decide +kernel⟩
theorem yv_X0_isOpen : YV yX0_isOpen := ⟨wn_X0_isOpen, wv_X0_isOpen⟩
theorem yb_X0_firstAt : YB yX0_firstAt cX0_firstAt 4 (some FieldType.int) 2 := ⟨wc_X0_firstAt, wi_X0, by decide +kernel, by decide +kernel, by decide +kernel⟩
theorem yv_X0_firstAt : YV yX0_firstAt := ⟨wn_X0_firstAt, wv_X0_firstAt⟩
theorem yb_X0_edge : YB yX0_edge cX0_edge 5 (some FieldType.int) 1 := ⟨wc_X0_edge, wi_X0, by decide +kernel, by decide +kernel, by decide +kernel⟩
theorem yv_X0_edge : YV yX0_edge := ⟨wn_X0_edge, wv_X0_edge⟩
theorem yb_X0_countPlaces : YB yX0_countPlaces cX0_countPlaces 6 (some FieldType.int) 0 := ⟨wc_X0_countPlaces, wi_X0, by decide +kernel, by decide +kernel, by decide +kernel⟩
theorem yv_X0_countPlaces : YV yX0_countPlaces := ⟨wn_X0_countPlaces, wv_X0_countPlaces⟩
theorem yb_X1_init : YB yX1_init cX1_init 1 (none : Option FieldType) 0 := ⟨wc_X1_init, wi_X1, by decide +kernel, by decide +kernel, by decide +kernel⟩
theorem yb_X1_resize : YB yX1_resize cX1_resize 3 (none : Option FieldType) 2 := ⟨wc_X1_resize, wi_X1, by decide +kernel, by decide +kernel, by decide +kernel⟩
theorem yv_X1_resize : YV yX1_resize := ⟨wn_X1_resize, wv_X1_resize⟩
theorem yb_X1_has : YB yX1_has cX1_has 3 (some FieldType.boolean) 2 := ⟨wc_X1_has, wi_X1, by decide +kernel, by decide +kernel, by decide +kernel⟩
theorem yv_X1_has : YV yX1_has := ⟨wn_X1_has, wv_X1_has⟩
theorem yb_X1_get : YB yX1_get cX1_get 3 (some FieldType.int) 2 := ⟨wc_X1_get, wi_X1, by decide +kernel, by decide +kernel, by decide +kernel⟩
theorem yv_X1_get : YV yX1_get := ⟨wn_X1_get, wv_X1_get⟩
theorem yb_X1_put : YB yX1_put cX1_put 4 (none : Option FieldType) 3 := ⟨wc_X1_put, wi_X1, by decide +kernel, by decide +kernel, by decide +kernel⟩
theorem yv_X1_put : YV yX1_put := ⟨wn_X1_put, wv_X1_put⟩
theorem yb_X1_scoreOf : YB yX1_scoreOf cX1_scoreOf 6 (some FieldType.int) 2 := ⟨wc_X1_scoreOf, wi_X1, by decide +kernel, by decide +kernel, by decide +kernel⟩
theorem yv_X1_scoreOf : YV yX1_scoreOf := ⟨wn_X1_scoreOf, wv_X1_scoreOf⟩
theorem yb_X1_changeAbout : YB yX1_changeAbout cX1_changeAbout 10 (some FieldType.int) 4 := ⟨wc_X1_changeAbout, wi_X1, by decide +kernel, by decide +kernel, by decide +kernel⟩
theorem yv_X1_changeAbout : YV yX1_changeAbout := ⟨wn_X1_changeAbout, wv_X1_changeAbout⟩
theorem yb_X1_scoreAll : YB yX1_scoreAll cX1_scoreAll 3 (none : Option FieldType) 0 := ⟨wc_X1_scoreAll, wi_X1, by decide +kernel, by decide +kernel, by decide +kernel⟩
theorem yv_X1_scoreAll : YV yX1_scoreAll := ⟨wn_X1_scoreAll, wv_X1_scoreAll⟩
theorem yb_X1_keptScore : YB yX1_keptScore cX1_keptScore 3 (some FieldType.int) 2 := ⟨wc_X1_keptScore, wi_X1, by decide +kernel, by decide +kernel, by decide +kernel⟩
theorem yv_X1_keptScore : YV yX1_keptScore := ⟨wn_X1_keptScore, wv_X1_keptScore⟩
theorem yb_X1_isPeak : YB yX1_isPeak cX1_isPeak 8 (some FieldType.boolean) 2 := ⟨wc_X1_isPeak, wi_X1, by decide +kernel, by decide +kernel, by decide +kernel⟩
theorem yv_X1_isPeak : YV yX1_isPeak := ⟨wn_X1_isPeak, wv_X1_isPeak⟩
theorem yb_X1_signOf : YB yX1_signOf cX1_signOf 7 (some FieldType.int) 2 := ⟨wc_X1_signOf, wi_X1, by decide +kernel, by decide +kernel, by decide +kernel⟩
theorem yv_X1_signOf : YV yX1_signOf := ⟨wn_X1_signOf, wv_X1_signOf⟩
theorem yb_X2_init : YB yX2_init cX2_init 1 (none : Option FieldType) 0 := ⟨wc_X2_init, wi_X2, by decide +kernel, by decide +kernel, by decide +kernel⟩
theorem yb_X2_find : YB yX2_find cX2_find 6 (none : Option FieldType) 2 := ⟨wc_X2_find, wi_X2, by decide +kernel, by decide +kernel, by decide +kernel⟩
theorem yv_X2_find : YV yX2_find := ⟨wn_X2_find, wv_X2_find⟩
theorem yb_X2_insert : YB yX2_insert cX2_insert 6 (none : Option FieldType) 3 := ⟨wc_X2_insert, wi_X2, by decide +kernel, by decide +kernel, by decide +kernel⟩
theorem yv_X2_insert : YV yX2_insert := ⟨wn_X2_insert, wv_X2_insert⟩
theorem yb_X2_nearestTo : YB yX2_nearestTo cX2_nearestTo 6 (some FieldType.int) 1 := ⟨wc_X2_nearestTo, wi_X2, by decide +kernel, by decide +kernel, by decide +kernel⟩
theorem yv_X2_nearestTo : YV yX2_nearestTo := ⟨wn_X2_nearestTo, wv_X2_nearestTo⟩
theorem yb_X3_init : YB yX3_init cX3_init 1 (none : Option FieldType) 0 := ⟨wc_X3_init, wi_X3, by decide +kernel, by decide +kernel, by decide +kernel⟩
theorem yb_X3_find : YB yX3_find cX3_find 3 (none : Option FieldType) 2 := ⟨wc_X3_find, wi_X3, by decide +kernel, by decide +kernel, by decide +kernel⟩
theorem yv_X3_find : YV yX3_find := ⟨wn_X3_find, wv_X3_find⟩
theorem yb_X3_isThere : YB yX3_isThere cX3_isThere 1 (some FieldType.boolean) 0 := ⟨wc_X3_isThere, wi_X3, by decide +kernel, by decide +kernel, by decide +kernel⟩
theorem yv_X3_isThere : YV yX3_isThere := ⟨wn_X3_isThere, wv_X3_isThere⟩
theorem yb_X3_compare : YB yX3_compare cX3_compare 7 (none : Option FieldType) 2 := ⟨wc_X3_compare, wi_X3, by decide +kernel, by decide +kernel, by decide +kernel⟩
theorem yv_X3_compare : YV yX3_compare := ⟨wn_X3_compare, wv_X3_compare⟩
theorem yb_X4_init : YB yX4_init cX4_init 1 (none : Option FieldType) 0 := ⟨wc_X4_init, wi_X4, by decide +kernel, by decide +kernel, by decide +kernel⟩
theorem yb_X4_find : YB yX4_find cX4_find 5 (none : Option FieldType) 3 := ⟨wc_X4_find, wi_X4, by decide +kernel, by decide +kernel, by decide +kernel⟩
theorem yv_X4_find : YV yX4_find := ⟨wn_X4_find, wv_X4_find⟩
theorem yb_X4_partnerOf : YB yX4_partnerOf cX4_partnerOf 5 (some FieldType.int) 4 := ⟨wc_X4_partnerOf, wi_X4, by decide +kernel, by decide +kernel, by decide +kernel⟩
theorem yb_X4_shiftX : YB yX4_shiftX cX4_shiftX 4 (some FieldType.int) 3 := ⟨wc_X4_shiftX, wi_X4, by decide +kernel, by decide +kernel, by decide +kernel⟩
theorem yv_X4_shiftX : YV yX4_shiftX := ⟨wn_X4_shiftX, wv_X4_shiftX⟩
theorem yb_X4_shiftY : YB yX4_shiftY cX4_shiftY 4 (some FieldType.int) 3 := ⟨wc_X4_shiftY, wi_X4, by decide +kernel, by decide +kernel, by decide +kernel⟩
theorem yv_X4_shiftY : YV yX4_shiftY := ⟨wn_X4_shiftY, wv_X4_shiftY⟩
theorem yb_X4_propose : YB yX4_propose cX4_propose 7 (none : Option FieldType) 4 := ⟨wc_X4_propose, wi_X4, by decide +kernel, by decide +kernel, by decide +kernel⟩
theorem yv_X4_propose : YV yX4_propose := ⟨wn_X4_propose, wv_X4_propose⟩
theorem yb_X5_init : YB yX5_init cX5_init 1 (none : Option FieldType) 0 := ⟨wc_X5_init, wi_X5, by decide +kernel, by decide +kernel, by decide +kernel⟩
theorem yb_X5_isJoined : YB yX5_isJoined cX5_isJoined 1 (some FieldType.boolean) 0 := ⟨wc_X5_isJoined, wi_X5, by decide +kernel, by decide +kernel, by decide +kernel⟩
theorem yv_X5_isJoined : YV yX5_isJoined := ⟨wn_X5_isJoined, wv_X5_isJoined⟩
theorem yb_X5_dotAt : YB yX5_dotAt cX5_dotAt 3 (some FieldType.int) 2 := ⟨wc_X5_dotAt, wi_X5, by decide +kernel, by decide +kernel, by decide +kernel⟩
theorem yv_X5_dotAt : YV yX5_dotAt := ⟨wn_X5_dotAt, wv_X5_dotAt⟩
theorem yb_X5_edge : YB yX5_edge cX5_edge 2 (some FieldType.int) 1 := ⟨wc_X5_edge, wi_X5, by decide +kernel, by decide +kernel, by decide +kernel⟩
theorem yv_X5_edge : YV yX5_edge := ⟨wn_X5_edge, wv_X5_edge⟩
theorem yb_X6_init : YB yX6_init cX6_init 1 (none : Option FieldType) 0 := ⟨wc_X6_init, wi_X6, by decide +kernel, by decide +kernel, by decide +kernel⟩
theorem yb_X6_find : YB yX6_find cX6_find 10 (none : Option FieldType) 3 := ⟨wc_X6_find, wi_X6, by decide +kernel, by decide +kernel, by decide +kernel⟩
theorem yv_X6_find : YV yX6_find := ⟨wn_X6_find, wv_X6_find⟩
theorem yb_X6_unlikeness : YB yX6_unlikeness cX6_unlikeness 6 (some FieldType.int) 4 := ⟨wc_X6_unlikeness, wi_X6, by decide +kernel, by decide +kernel, by decide +kernel⟩
theorem yb_X6_costAt : YB yX6_costAt cX6_costAt 3 (some FieldType.int) 2 := ⟨wc_X6_costAt, wi_X6, by decide +kernel, by decide +kernel, by decide +kernel⟩
theorem yv_X6_costAt : YV yX6_costAt := ⟨wn_X6_costAt, wv_X6_costAt⟩
theorem yb_X6_cheapest : YB yX6_cheapest cX6_cheapest 7 (some FieldType.int) 4 := ⟨wc_X6_cheapest, wi_X6, by decide +kernel, by decide +kernel, by decide +kernel⟩
theorem yv_X6_cheapest : YV yX6_cheapest := ⟨wn_X6_cheapest, wv_X6_cheapest⟩
theorem yb_X7_init : YB yX7_init cX7_init 1 (none : Option FieldType) 0 := ⟨wc_X7_init, wi_X7, by decide +kernel, by decide +kernel, by decide +kernel⟩
theorem yb_X7_lightAt : YB yX7_lightAt cX7_lightAt 4 (some FieldType.int) 2 := ⟨wc_X7_lightAt, wi_X7, by decide +kernel, by decide +kernel, by decide +kernel⟩
theorem yv_X7_lightAt : YV yX7_lightAt := ⟨wn_X7_lightAt, wv_X7_lightAt⟩
theorem yb_X7_shootInto : YB yX7_shootInto cX7_shootInto 7 (none : Option FieldType) 4 := ⟨wc_X7_shootInto, wi_X7, by decide +kernel, by decide +kernel, by decide +kernel⟩
theorem yv_X7_shootInto : YV yX7_shootInto := ⟨wn_X7_shootInto, wv_X7_shootInto⟩
theorem yb_X8_init : YB yX8_init cX8_init 1 (none : Option FieldType) 0 := ⟨wc_X8_init, wi_X8, by decide +kernel, by decide +kernel, by decide +kernel⟩
theorem yb_X8_seed : YB yX8_seed cX8_seed 3 (some FieldType.int) 1 := ⟨wc_X8_seed, wi_X8, by decide +kernel, by decide +kernel, by decide +kernel⟩
theorem yv_X8_seed : YV yX8_seed := ⟨wn_X8_seed, wv_X8_seed⟩
theorem yb_X8_light : YB yX8_light cX8_light 4 (some FieldType.int) 2 := ⟨wc_X8_light, wi_X8, by decide +kernel, by decide +kernel, by decide +kernel⟩
theorem yv_X8_light : YV yX8_light := ⟨wn_X8_light, wv_X8_light⟩
theorem yb_X8_shoot : YB yX8_shoot cX8_shoot 8 (some FieldType.int) 5 := ⟨wc_X8_shoot, wi_X8, by decide +kernel, by decide +kernel, by decide +kernel⟩
theorem yv_X8_shoot : YV yX8_shoot := ⟨wn_X8_shoot, wv_X8_shoot⟩
theorem yb_X8_clear : YB yX8_clear cX8_clear 2 (some FieldType.int) 0 := ⟨wc_X8_clear, wi_X8, by decide +kernel, by decide +kernel, by decide +kernel⟩
theorem yv_X8_clear : YV yX8_clear := ⟨wn_X8_clear, wv_X8_clear⟩
theorem yb_X8_dot : YB yX8_dot cX8_dot 7 (some FieldType.int) 4 := ⟨wc_X8_dot, wi_X8, by decide +kernel, by decide +kernel, by decide +kernel⟩
theorem yv_X8_dot : YV yX8_dot := ⟨wn_X8_dot, wv_X8_dot⟩
theorem yb_X8_at : YB yX8_at cX8_at 4 (some FieldType.int) 3 := ⟨wc_X8_at, wi_X8, by decide +kernel, by decide +kernel, by decide +kernel⟩
theorem yv_X8_at : YV yX8_at := ⟨wn_X8_at, wv_X8_at⟩
theorem yb_X8_rules : YB yX8_rules cX8_rules 3 (some FieldType.int) 2 := ⟨wc_X8_rules, wi_X8, by decide +kernel, by decide +kernel, by decide +kernel⟩
theorem yv_X8_rules : YV yX8_rules := ⟨wn_X8_rules, wv_X8_rules⟩
theorem yb_X8_score : YB yX8_score cX8_score 4 (some FieldType.int) 3 := ⟨wc_X8_score, wi_X8, by decide +kernel, by decide +kernel, by decide +kernel⟩
theorem yv_X8_score : YV yX8_score := ⟨wn_X8_score, wv_X8_score⟩
theorem yb_X8_marks : YB yX8_marks cX8_marks 2 (some FieldType.int) 1 := ⟨wc_X8_marks, wi_X8, by decide +kernel, by decide +kernel, by decide +kernel⟩
theorem yv_X8_marks : YV yX8_marks := ⟨wn_X8_marks, wv_X8_marks⟩
theorem yb_X8_mark : YB yX8_mark cX8_mark 5 (some FieldType.int) 3 := ⟨wc_X8_mark, wi_X8, by decide +kernel, by decide +kernel, by decide +kernel⟩
theorem yv_X8_mark : YV yX8_mark := ⟨wn_X8_mark, wv_X8_mark⟩
theorem yb_X8_match : YB yX8_match cX8_match 4 (some FieldType.int) 3 := ⟨wc_X8_match, wi_X8, by decide +kernel, by decide +kernel, by decide +kernel⟩
theorem yv_X8_match : YV yX8_match := ⟨wn_X8_match, wv_X8_match⟩
theorem yb_X8_shift : YB yX8_shift cX8_shift 5 (some FieldType.int) 3 := ⟨wc_X8_shift, wi_X8, by decide +kernel, by decide +kernel, by decide +kernel⟩
theorem yv_X8_shift : YV yX8_shift := ⟨wn_X8_shift, wv_X8_shift⟩
theorem yb_X8_place : YB yX8_place cX8_place 4 (some FieldType.int) 2 := ⟨wc_X8_place, wi_X8, by decide +kernel, by decide +kernel, by decide +kernel⟩
theorem yv_X8_place : YV yX8_place := ⟨wn_X8_place, wv_X8_place⟩
theorem yb_X8_open : YB yX8_open cX8_open 1 (some FieldType.int) 0 := ⟨wc_X8_open, wi_X8, by decide +kernel, by decide +kernel, by decide +kernel⟩
theorem yv_X8_open : YV yX8_open := ⟨wn_X8_open, wv_X8_open⟩
theorem yb_X8_joined : YB yX8_joined cX8_joined 1 (some FieldType.int) 0 := ⟨wc_X8_joined, wi_X8, by decide +kernel, by decide +kernel, by decide +kernel⟩
theorem yv_X8_joined : YV yX8_joined := ⟨wn_X8_joined, wv_X8_joined⟩
theorem yb_X8_overlap : YB yX8_overlap cX8_overlap 5 (some FieldType.int) 3 := ⟨wc_X8_overlap, wi_X8, by decide +kernel, by decide +kernel, by decide +kernel⟩
theorem yv_X8_overlap : YV yX8_overlap := ⟨wn_X8_overlap, wv_X8_overlap⟩
theorem yb_X8_lights : YB yX8_lights cX8_lights 5 (some FieldType.int) 3 := ⟨wc_X8_lights, wi_X8, by decide +kernel, by decide +kernel, by decide +kernel⟩
theorem yv_X8_lights : YV yX8_lights := ⟨wn_X8_lights, wv_X8_lights⟩
theorem yb_X8_seam : YB yX8_seam cX8_seam 5 (some FieldType.int) 3 := ⟨wc_X8_seam, wi_X8, by decide +kernel, by decide +kernel, by decide +kernel⟩
theorem yv_X8_seam : YV yX8_seam := ⟨wn_X8_seam, wv_X8_seam⟩
theorem yb_X8_whole : YB yX8_whole cX8_whole 5 (some FieldType.int) 3 := ⟨wc_X8_whole, wi_X8, by decide +kernel, by decide +kernel, by decide +kernel⟩
theorem yv_X8_whole : YV yX8_whole := ⟨wn_X8_whole, wv_X8_whole⟩
theorem yb_X8_extent : YB yX8_extent cX8_extent 2 (some FieldType.int) 1 := ⟨wc_X8_extent, wi_X8, by decide +kernel, by decide +kernel, by decide +kernel⟩
theorem yv_X8_extent : YV yX8_extent := ⟨wn_X8_extent, wv_X8_extent⟩
theorem yb_X8_told : YB yX8_told cX8_told 2 (some FieldType.int) 1 := ⟨wc_X8_told, wi_X8, by decide +kernel, by decide +kernel, by decide +kernel⟩
theorem yv_X8_told : YV yX8_told := ⟨wn_X8_told, wv_X8_told⟩
theorem yb_X8_within : YB yX8_within cX8_within 3 (some FieldType.boolean) 3 := ⟨wc_X8_within, wi_X8, by decide +kernel, by decide +kernel, by decide +kernel⟩
theorem yb_X8_isPicture : YB yX8_isPicture cX8_isPicture 2 (some FieldType.boolean) 1 := ⟨wc_X8_isPicture, wi_X8, by decide +kernel, by decide +kernel, by decide +kernel⟩
theorem yv_X8_isPicture : YV yX8_isPicture := ⟨wn_X8_isPicture, wv_X8_isPicture⟩
theorem yb_X8_isDot : YB yX8_isDot cX8_isDot 4 (some FieldType.boolean) 3 := ⟨wc_X8_isDot, wi_X8, by decide +kernel, by decide +kernel, by decide +kernel⟩
theorem yv_X8_isDot : YV yX8_isDot := ⟨wn_X8_isDot, wv_X8_isDot⟩
theorem yb_X8_isMark : YB yX8_isMark cX8_isMark 3 (some FieldType.boolean) 2 := ⟨wc_X8_isMark, wi_X8, by decide +kernel, by decide +kernel, by decide +kernel⟩
theorem yv_X8_isMark : YV yX8_isMark := ⟨wn_X8_isMark, wv_X8_isMark⟩
theorem yb_X8_areTwo : YB yX8_areTwo cX8_areTwo 3 (some FieldType.boolean) 2 := ⟨wc_X8_areTwo, wi_X8, by decide +kernel, by decide +kernel, by decide +kernel⟩
theorem yv_X8_areTwo : YV yX8_areTwo := ⟨wn_X8_areTwo, wv_X8_areTwo⟩
theorem yb_X8_refusalOfTwo : YB yX8_refusalOfTwo cX8_refusalOfTwo 4 (some FieldType.int) 3 := ⟨wc_X8_refusalOfTwo, wi_X8, by decide +kernel, by decide +kernel, by decide +kernel⟩
theorem yv_X8_refusalOfTwo : YV yX8_refusalOfTwo := ⟨wn_X8_refusalOfTwo, wv_X8_refusalOfTwo⟩
theorem yb_X9_init : YB yX9_init cX9_init 1 (none : Option FieldType) 0 := ⟨wc_X9_init, wi_X9, by decide +kernel, by decide +kernel, by decide +kernel⟩
theorem yb_X9_in : YB yX9_in cX9_in 3 (some FieldType.boolean) 3 := ⟨wc_X9_in, wi_X9, by decide +kernel, by decide +kernel, by decide +kernel⟩
theorem yb_X9_isPicture : YB yX9_isPicture cX9_isPicture 2 (some FieldType.boolean) 1 := ⟨wc_X9_isPicture, wi_X9, by decide +kernel, by decide +kernel, by decide +kernel⟩
theorem yv_X9_isPicture : YV yX9_isPicture := ⟨wn_X9_isPicture, wv_X9_isPicture⟩
theorem yb_X9_seed : YB yX9_seed cX9_seed 3 (some FieldType.int) 1 := ⟨wc_X9_seed, wi_X9, by decide +kernel, by decide +kernel, by decide +kernel⟩
theorem yv_X9_seed : YV yX9_seed := ⟨wn_X9_seed, wv_X9_seed⟩
theorem yb_X9_lightAt : YB yX9_lightAt cX9_lightAt 4 (some FieldType.int) 2 := ⟨wc_X9_lightAt, wi_X9, by decide +kernel, by decide +kernel, by decide +kernel⟩
theorem yv_X9_lightAt : YV yX9_lightAt := ⟨wn_X9_lightAt, wv_X9_lightAt⟩
theorem yb_X9_light : YB yX9_light cX9_light 3 (some FieldType.int) 2 := ⟨wc_X9_light, wi_X9, by decide +kernel, by decide +kernel, by decide +kernel⟩
theorem yv_X9_light : YV yX9_light := ⟨wn_X9_light, wv_X9_light⟩
theorem yb_X9_shoot : YB yX9_shoot cX9_shoot 9 (some FieldType.int) 5 := ⟨wc_X9_shoot, wi_X9, by decide +kernel, by decide +kernel, by decide +kernel⟩
theorem yv_X9_shoot : YV yX9_shoot := ⟨wn_X9_shoot, wv_X9_shoot⟩
theorem yb_X9_clear : YB yX9_clear cX9_clear 2 (some FieldType.int) 0 := ⟨wc_X9_clear, wi_X9, by decide +kernel, by decide +kernel, by decide +kernel⟩
theorem yv_X9_clear : YV yX9_clear := ⟨wn_X9_clear, wv_X9_clear⟩
theorem yb_X9_isDot : YB yX9_isDot cX9_isDot 4 (some FieldType.boolean) 3 := ⟨wc_X9_isDot, wi_X9, by decide +kernel, by decide +kernel, by decide +kernel⟩
theorem yv_X9_isDot : YV yX9_isDot := ⟨wn_X9_isDot, wv_X9_isDot⟩
theorem yb_X9_dotAt : YB yX9_dotAt cX9_dotAt 4 (some FieldType.int) 3 := ⟨wc_X9_dotAt, wi_X9, by decide +kernel, by decide +kernel, by decide +kernel⟩
theorem yv_X9_dotAt : YV yX9_dotAt := ⟨wn_X9_dotAt, wv_X9_dotAt⟩
theorem yb_X9_dot : YB yX9_dot cX9_dot 6 (some FieldType.int) 4 := ⟨wc_X9_dot, wi_X9, by decide +kernel, by decide +kernel, by decide +kernel⟩
theorem yv_X9_dot : YV yX9_dot := ⟨wn_X9_dot, wv_X9_dot⟩
theorem yb_X9_at : YB yX9_at cX9_at 4 (some FieldType.int) 3 := ⟨wc_X9_at, wi_X9, by decide +kernel, by decide +kernel, by decide +kernel⟩
theorem yv_X9_at : YV yX9_at := ⟨wn_X9_at, wv_X9_at⟩
theorem yb_X9_rules : YB yX9_rules cX9_rules 3 (some FieldType.int) 2 := ⟨wc_X9_rules, wi_X9, by decide +kernel, by decide +kernel, by decide +kernel⟩
theorem yv_X9_rules : YV yX9_rules := ⟨wn_X9_rules, wv_X9_rules⟩
theorem yb_X9_scoreOf : YB yX9_scoreOf cX9_scoreOf 14 (some FieldType.int) 3 := ⟨wc_X9_scoreOf, wi_X9, by decide +kernel, by decide +kernel, by decide +kernel⟩
theorem yv_X9_scoreOf : YV yX9_scoreOf := ⟨wn_X9_scoreOf, wv_X9_scoreOf⟩
theorem yb_X9_signOf : YB yX9_signOf cX9_signOf 8 (some FieldType.int) 3 := ⟨wc_X9_signOf, wi_X9, by decide +kernel, by decide +kernel, by decide +kernel⟩
theorem yv_X9_signOf : YV yX9_signOf := ⟨wn_X9_signOf, wv_X9_signOf⟩
theorem yb_X9_isMark : YB yX9_isMark cX9_isMark 10 (some FieldType.boolean) 3 := ⟨wc_X9_isMark, wi_X9, by decide +kernel, by decide +kernel, by decide +kernel⟩
theorem yv_X9_isMark : YV yX9_isMark := ⟨wn_X9_isMark, wv_X9_isMark⟩
theorem yb_X9_layMarks : YB yX9_layMarks cX9_layMarks 4 (none : Option FieldType) 1 := ⟨wc_X9_layMarks, wi_X9, by decide +kernel, by decide +kernel, by decide +kernel⟩
theorem yv_X9_layMarks : YV yX9_layMarks := ⟨wn_X9_layMarks, wv_X9_layMarks⟩
theorem yb_X9_putMark : YB yX9_putMark cX9_putMark 6 (none : Option FieldType) 2 := ⟨wc_X9_putMark, wi_X9, by decide +kernel, by decide +kernel, by decide +kernel⟩
theorem yv_X9_putMark : YV yX9_putMark := ⟨wn_X9_putMark, wv_X9_putMark⟩
theorem yb_X9_bits : YB yX9_bits cX9_bits 3 (some FieldType.int) 1 := ⟨wc_X9_bits, wi_X9, by decide +kernel, by decide +kernel, by decide +kernel⟩
theorem yb_X9_distance : YB yX9_distance cX9_distance 5 (some FieldType.int) 4 := ⟨wc_X9_distance, wi_X9, by decide +kernel, by decide +kernel, by decide +kernel⟩
theorem yv_X9_distance : YV yX9_distance := ⟨wn_X9_distance, wv_X9_distance⟩
theorem yb_X9_nearest : YB yX9_nearest cX9_nearest 6 (some FieldType.int) 3 := ⟨wc_X9_nearest, wi_X9, by decide +kernel, by decide +kernel, by decide +kernel⟩
theorem yv_X9_nearest : YV yX9_nearest := ⟨wn_X9_nearest, wv_X9_nearest⟩
theorem yb_X9_markX : YB yX9_markX cX9_markX 3 (some FieldType.int) 2 := ⟨wc_X9_markX, wi_X9, by decide +kernel, by decide +kernel, by decide +kernel⟩
theorem yv_X9_markX : YV yX9_markX := ⟨wn_X9_markX, wv_X9_markX⟩
theorem yb_X9_markY : YB yX9_markY cX9_markY 3 (some FieldType.int) 2 := ⟨wc_X9_markY, wi_X9, by decide +kernel, by decide +kernel, by decide +kernel⟩
theorem yv_X9_markY : YV yX9_markY := ⟨wn_X9_markY, wv_X9_markY⟩
theorem yb_X9_layPair : YB yX9_layPair cX9_layPair 9 (none : Option FieldType) 2 := ⟨wc_X9_layPair, wi_X9, by decide +kernel, by decide +kernel, by decide +kernel⟩
theorem yv_X9_layPair : YV yX9_layPair := ⟨wn_X9_layPair, wv_X9_layPair⟩
theorem yb_X9_votesFor : YB yX9_votesFor cX9_votesFor 9 (some FieldType.int) 4 := ⟨wc_X9_votesFor, wi_X9, by decide +kernel, by decide +kernel, by decide +kernel⟩
theorem yv_X9_votesFor : YV yX9_votesFor := ⟨wn_X9_votesFor, wv_X9_votesFor⟩
theorem yb_X9_layPlaces : YB yX9_layPlaces cX9_layPlaces 7 (none : Option FieldType) 0 := ⟨wc_X9_layPlaces, wi_X9, by decide +kernel, by decide +kernel, by decide +kernel⟩
theorem yv_X9_layPlaces : YV yX9_layPlaces := ⟨wn_X9_layPlaces, wv_X9_layPlaces⟩
theorem yb_X9_lay : YB yX9_lay cX9_lay 2 (none : Option FieldType) 0 := ⟨wc_X9_lay, wi_X9, by decide +kernel, by decide +kernel, by decide +kernel⟩
theorem yv_X9_lay : YV yX9_lay := ⟨wn_X9_lay, wv_X9_lay⟩
theorem yb_X9_score : YB yX9_score cX9_score 4 (some FieldType.int) 3 := ⟨wc_X9_score, wi_X9, by decide +kernel, by decide +kernel, by decide +kernel⟩
theorem yv_X9_score : YV yX9_score := ⟨wn_X9_score, wv_X9_score⟩
theorem yb_X9_marks : YB yX9_marks cX9_marks 2 (some FieldType.int) 1 := ⟨wc_X9_marks, wi_X9, by decide +kernel, by decide +kernel, by decide +kernel⟩
theorem yv_X9_marks : YV yX9_marks := ⟨wn_X9_marks, wv_X9_marks⟩
theorem yb_X9_hasMark : YB yX9_hasMark cX9_hasMark 3 (some FieldType.boolean) 2 := ⟨wc_X9_hasMark, wi_X9, by decide +kernel, by decide +kernel, by decide +kernel⟩
theorem yv_X9_hasMark : YV yX9_hasMark := ⟨wn_X9_hasMark, wv_X9_hasMark⟩
theorem yb_X9_mark : YB yX9_mark cX9_mark 4 (some FieldType.int) 3 := ⟨wc_X9_mark, wi_X9, by decide +kernel, by decide +kernel, by decide +kernel⟩
theorem yv_X9_mark : YV yX9_mark := ⟨wn_X9_mark, wv_X9_mark⟩
theorem yb_X9_match : YB yX9_match cX9_match 4 (some FieldType.int) 3 := ⟨wc_X9_match, wi_X9, by decide +kernel, by decide +kernel, by decide +kernel⟩
theorem yv_X9_match : YV yX9_match := ⟨wn_X9_match, wv_X9_match⟩
theorem yb_X9_arePair : YB yX9_arePair cX9_arePair 3 (some FieldType.boolean) 2 := ⟨wc_X9_arePair, wi_X9, by decide +kernel, by decide +kernel, by decide +kernel⟩
theorem yv_X9_arePair : YV yX9_arePair := ⟨wn_X9_arePair, wv_X9_arePair⟩
theorem yb_X9_shift : YB yX9_shift cX9_shift 5 (some FieldType.int) 3 := ⟨wc_X9_shift, wi_X9, by decide +kernel, by decide +kernel, by decide +kernel⟩
theorem yv_X9_shift : YV yX9_shift := ⟨wn_X9_shift, wv_X9_shift⟩
theorem yb_X9_place : YB yX9_place cX9_place 3 (some FieldType.int) 2 := ⟨wc_X9_place, wi_X9, by decide +kernel, by decide +kernel, by decide +kernel⟩
theorem yv_X9_place : YV yX9_place := ⟨wn_X9_place, wv_X9_place⟩
theorem yb_X9_open : YB yX9_open cX9_open 7 (some FieldType.int) 0 := ⟨wc_X9_open, wi_X9, by decide +kernel, by decide +kernel, by decide +kernel⟩
theorem yv_X9_open : YV yX9_open := ⟨wn_X9_open, wv_X9_open⟩
theorem yb_X9_joined : YB yX9_joined cX9_joined 1 (some FieldType.int) 0 := ⟨wc_X9_joined, wi_X9, by decide +kernel, by decide +kernel, by decide +kernel⟩
theorem yv_X9_joined : YV yX9_joined := ⟨wn_X9_joined, wv_X9_joined⟩
theorem yb_X9_layOverlap : YB yX9_layOverlap cX9_layOverlap 7 (none : Option FieldType) 2 := ⟨wc_X9_layOverlap, wi_X9, by decide +kernel, by decide +kernel, by decide +kernel⟩
theorem yv_X9_layOverlap : YV yX9_layOverlap := ⟨wn_X9_layOverlap, wv_X9_layOverlap⟩
theorem yb_X9_barsOverlap : YB yX9_barsOverlap cX9_barsOverlap 4 (some FieldType.int) 3 := ⟨wc_X9_barsOverlap, wi_X9, by decide +kernel, by decide +kernel, by decide +kernel⟩
theorem yv_X9_barsOverlap : YV yX9_barsOverlap := ⟨wn_X9_barsOverlap, wv_X9_barsOverlap⟩
theorem yb_X9_overlap : YB yX9_overlap cX9_overlap 5 (some FieldType.int) 3 := ⟨wc_X9_overlap, wi_X9, by decide +kernel, by decide +kernel, by decide +kernel⟩
theorem yv_X9_overlap : YV yX9_overlap := ⟨wn_X9_overlap, wv_X9_overlap⟩
theorem yb_X9_dotOver : YB yX9_dotOver cX9_dotOver 4 (some FieldType.int) 3 := ⟨wc_X9_dotOver, wi_X9, by decide +kernel, by decide +kernel, by decide +kernel⟩
theorem yv_X9_dotOver : YV yX9_dotOver := ⟨wn_X9_dotOver, wv_X9_dotOver⟩
theorem yb_X9_lights : YB yX9_lights cX9_lights 9 (some FieldType.int) 3 := ⟨wc_X9_lights, wi_X9, by decide +kernel, by decide +kernel, by decide +kernel⟩
theorem yv_X9_lights : YV yX9_lights := ⟨wn_X9_lights, wv_X9_lights⟩
theorem yb_X9_leastAt : YB yX9_leastAt cX9_leastAt 3 (some FieldType.int) 2 := ⟨wc_X9_leastAt, wi_X9, by decide +kernel, by decide +kernel, by decide +kernel⟩
theorem yv_X9_leastAt : YV yX9_leastAt := ⟨wn_X9_leastAt, wv_X9_leastAt⟩
theorem yb_X9_below : YB yX9_below cX9_below 6 (some FieldType.int) 2 := ⟨wc_X9_below, wi_X9, by decide +kernel, by decide +kernel, by decide +kernel⟩
theorem yv_X9_below : YV yX9_below := ⟨wn_X9_below, wv_X9_below⟩
theorem yb_X9_seam : YB yX9_seam cX9_seam 10 (some FieldType.int) 3 := ⟨wc_X9_seam, wi_X9, by decide +kernel, by decide +kernel, by decide +kernel⟩
theorem yv_X9_seam : YV yX9_seam := ⟨wn_X9_seam, wv_X9_seam⟩
theorem yb_X9_pictureAt : YB yX9_pictureAt cX9_pictureAt 6 (some FieldType.int) 2 := ⟨wc_X9_pictureAt, wi_X9, by decide +kernel, by decide +kernel, by decide +kernel⟩
theorem yv_X9_pictureAt : YV yX9_pictureAt := ⟨wn_X9_pictureAt, wv_X9_pictureAt⟩
theorem yb_X9_whole : YB yX9_whole cX9_whole 5 (some FieldType.int) 3 := ⟨wc_X9_whole, wi_X9, by decide +kernel, by decide +kernel, by decide +kernel⟩
theorem yv_X9_whole : YV yX9_whole := ⟨wn_X9_whole, wv_X9_whole⟩
theorem yb_X9_edge : YB yX9_edge cX9_edge 6 (some FieldType.int) 1 := ⟨wc_X9_edge, wi_X9, by decide +kernel, by decide +kernel, by decide +kernel⟩
theorem yv_X9_edge : YV yX9_edge := ⟨wn_X9_edge, wv_X9_edge⟩
theorem yb_X9_extent : YB yX9_extent cX9_extent 5 (some FieldType.int) 1 := ⟨wc_X9_extent, wi_X9, by decide +kernel, by decide +kernel, by decide +kernel⟩
theorem yv_X9_extent : YV yX9_extent := ⟨wn_X9_extent, wv_X9_extent⟩
theorem yb_X9_told : YB yX9_told cX9_told 2 (some FieldType.int) 1 := ⟨wc_X9_told, wi_X9, by decide +kernel, by decide +kernel, by decide +kernel⟩
theorem yv_X9_told : YV yX9_told := ⟨wn_X9_told, wv_X9_told⟩
theorem yb_J6_bitCount_0f7a4 : YB yJ6_bitCount_0f7a4 cJ6_bitCount_0f7a4 1 (some FieldType.int) 1 := ⟨wc_J6_bitCount_0f7a4, wi_J6, by decide +kernel, by decide +kernel, by decide +kernel⟩
theorem yb_J9_abs_0f7a4 : YB yJ9_abs_0f7a4 cJ9_abs_0f7a4 1 (some FieldType.int) 1 := ⟨wc_J9_abs_0f7a4, wi_J9, by decide +kernel, by decide +kernel, by decide +kernel⟩
theorem yb_J9_max_7cf53 : YB yJ9_max_7cf53 cJ9_max_7cf53 2 (some FieldType.int) 2 := ⟨wc_J9_max_7cf53, wi_J9, by decide +kernel, by decide +kernel, by decide +kernel⟩
theorem yb_J9_min_7cf53 : YB yJ9_min_7cf53 cJ9_min_7cf53 2 (some FieldType.int) 2 := ⟨wc_J9_min_7cf53, wi_J9, by decide +kernel, by decide +kernel, by decide +kernel⟩
end
section
theorem dX0_init_0 : Dn cX0_init 0 (.aload_n 0) 1 1 := ⟨by decide +kernel, rfl⟩
theorem dX0_init_1 : Dn cX0_init 1 (.invokespecial 3) 3 4 := ⟨by decide +kernel, rfl⟩
theorem dX0_init_4 : Dn cX0_init 4 (.aload_n 0) 1 5 := ⟨by decide +kernel, rfl⟩
theorem dX0_init_5 : Dn cX0_init 5 (.iconst 4) 1 6 := ⟨by decide +kernel, rfl⟩
theorem dX0_init_6 : Dn cX0_init 6 (.anewarray 9) 3 9 := ⟨by decide +kernel, rfl⟩
theorem dX0_init_9 : Dn cX0_init 9 (.putfield 11) 3 12 := ⟨by decide +kernel, rfl⟩
theorem dX0_init_12 : Dn cX0_init 12 (.aload_n 0) 1 13 := ⟨by decide +kernel, rfl⟩
theorem dX0_init_13 : Dn cX0_init 13 (.bipush 16) 2 15 := ⟨by decide +kernel, rfl⟩
theorem dX0_init_15 : Dn cX0_init 15 (.anewarray 17) 3 18 := ⟨by decide +kernel, rfl⟩
theorem dX0_init_18 : Dn cX0_init 18 (.putfield 19) 3 21 := ⟨by decide +kernel, rfl⟩
theorem dX0_init_21 : Dn cX0_init 21 (.aload_n 0) 1 22 := ⟨by decide +kernel, rfl⟩
theorem dX0_init_22 : Dn cX0_init 22 (.iconst 4) 1 23 := ⟨by decide +kernel, rfl⟩
theorem dX0_init_23 : Dn cX0_init 23 (.newarray .int) 2 25 := ⟨by decide +kernel, rfl⟩
theorem dX0_init_25 : Dn cX0_init 25 (.putfield 23) 3 28 := ⟨by decide +kernel, rfl⟩
theorem dX0_init_28 : Dn cX0_init 28 (.iconst 0) 1 29 := ⟨by decide +kernel, rfl⟩
theorem dX0_init_29 : Dn cX0_init 29 (.istore_n 1) 1 30 := ⟨by decide +kernel, rfl⟩
theorem dX0_init_30 : Dn cX0_init 30 (.iload_n 1) 1 31 := ⟨by decide +kernel, rfl⟩
theorem dX0_init_31 : Dn cX0_init 31 (.iconst 4) 1 32 := ⟨by decide +kernel, rfl⟩
theorem dX0_init_32 : Dj cX0_init 32 (fun o => .if_icmp .ge o) (22) 3 35 54 := ⟨by decide +kernel, rfl, by decide⟩
theorem dX0_init_35 : Dn cX0_init 35 (.aload_n 0) 1 36 := ⟨by decide +kernel, rfl⟩
theorem dX0_init_36 : Dn cX0_init 36 (.getfield 11) 3 39 := ⟨by decide +kernel, rfl⟩
theorem dX0_init_39 : Dn cX0_init 39 (.iload_n 1) 1 40 := ⟨by decide +kernel, rfl⟩
theorem dX0_init_40 : Dn cX0_init 40 (.new 9) 3 43 := ⟨by decide +kernel, rfl⟩
theorem dX0_init_43 : Dn cX0_init 43 (.dup) 1 44 := ⟨by decide +kernel, rfl⟩
theorem dX0_init_44 : Dn cX0_init 44 (.invokespecial 27) 3 47 := ⟨by decide +kernel, rfl⟩
theorem dX0_init_47 : Dn cX0_init 47 (.aastore) 1 48 := ⟨by decide +kernel, rfl⟩
theorem dX0_init_48 : Dn cX0_init 48 (.iinc 1 1) 3 51 := ⟨by decide +kernel, rfl⟩
theorem dX0_init_51 : Dj cX0_init 51 .goto (-21) 3 54 30 := ⟨by decide +kernel, rfl, by decide⟩
theorem dX0_init_54 : Dn cX0_init 54 (.iconst 0) 1 55 := ⟨by decide +kernel, rfl⟩
theorem dX0_init_55 : Dn cX0_init 55 (.istore_n 1) 1 56 := ⟨by decide +kernel, rfl⟩
theorem dX0_init_56 : Dn cX0_init 56 (.iload_n 1) 1 57 := ⟨by decide +kernel, rfl⟩
theorem dX0_init_57 : Dn cX0_init 57 (.bipush 16) 2 59 := ⟨by decide +kernel, rfl⟩
theorem dX0_init_59 : Dj cX0_init 59 (fun o => .if_icmp .ge o) (22) 3 62 81 := ⟨by decide +kernel, rfl, by decide⟩
theorem dX0_init_62 : Dn cX0_init 62 (.aload_n 0) 1 63 := ⟨by decide +kernel, rfl⟩
theorem dX0_init_63 : Dn cX0_init 63 (.getfield 19) 3 66 := ⟨by decide +kernel, rfl⟩
theorem dX0_init_66 : Dn cX0_init 66 (.iload_n 1) 1 67 := ⟨by decide +kernel, rfl⟩
theorem dX0_init_67 : Dn cX0_init 67 (.new 17) 3 70 := ⟨by decide +kernel, rfl⟩
theorem dX0_init_70 : Dn cX0_init 70 (.dup) 1 71 := ⟨by decide +kernel, rfl⟩
theorem dX0_init_71 : Dn cX0_init 71 (.invokespecial 28) 3 74 := ⟨by decide +kernel, rfl⟩
theorem dX0_init_74 : Dn cX0_init 74 (.aastore) 1 75 := ⟨by decide +kernel, rfl⟩
theorem dX0_init_75 : Dn cX0_init 75 (.iinc 1 1) 3 78 := ⟨by decide +kernel, rfl⟩
theorem dX0_init_78 : Dj cX0_init 78 .goto (-22) 3 81 56 := ⟨by decide +kernel, rfl, by decide⟩
theorem dX0_init_81 : Dn cX0_init 81 (.return_) 1 82 := ⟨by decide +kernel, rfl⟩
theorem dX0_pairingOf_0 : Dn cX0_pairingOf 0 (.aload_n 0) 1 1 := ⟨by decide +kernel, rfl⟩
theorem dX0_pairingOf_1 : Dn cX0_pairingOf 1 (.getfield 19) 3 4 := ⟨by decide +kernel, rfl⟩
theorem dX0_pairingOf_4 : Dn cX0_pairingOf 4 (.iload_n 1) 1 5 := ⟨by decide +kernel, rfl⟩
theorem dX0_pairingOf_5 : Dn cX0_pairingOf 5 (.iconst 4) 1 6 := ⟨by decide +kernel, rfl⟩
theorem dX0_pairingOf_6 : Dn cX0_pairingOf 6 (.imul) 1 7 := ⟨by decide +kernel, rfl⟩
theorem dX0_pairingOf_7 : Dn cX0_pairingOf 7 (.iload_n 2) 1 8 := ⟨by decide +kernel, rfl⟩
theorem dX0_pairingOf_8 : Dn cX0_pairingOf 8 (.iadd) 1 9 := ⟨by decide +kernel, rfl⟩
theorem dX0_pairingOf_9 : Dn cX0_pairingOf 9 (.aaload) 1 10 := ⟨by decide +kernel, rfl⟩
theorem dX0_pairingOf_10 : Dn cX0_pairingOf 10 (.areturn) 1 11 := ⟨by decide +kernel, rfl⟩
theorem dX0_settle_0 : Dn cX0_settle 0 (.aload_n 0) 1 1 := ⟨by decide +kernel, rfl⟩
theorem dX0_settle_1 : Dn cX0_settle 1 (.getfield 29) 3 4 := ⟨by decide +kernel, rfl⟩
theorem dX0_settle_4 : Dj cX0_settle 4 (fun o => .ifCond .ne o) (4) 3 7 8 := ⟨by decide +kernel, rfl, by decide⟩
theorem dX0_settle_7 : Dn cX0_settle 7 (.return_) 1 8 := ⟨by decide +kernel, rfl⟩
theorem dX0_settle_8 : Dn cX0_settle 8 (.iconst 0) 1 9 := ⟨by decide +kernel, rfl⟩
theorem dX0_settle_9 : Dn cX0_settle 9 (.istore_n 3) 1 10 := ⟨by decide +kernel, rfl⟩
theorem dX0_settle_10 : Dn cX0_settle 10 (.iload_n 3) 1 11 := ⟨by decide +kernel, rfl⟩
theorem dX0_settle_11 : Dn cX0_settle 11 (.aload_n 0) 1 12 := ⟨by decide +kernel, rfl⟩
theorem dX0_settle_12 : Dn cX0_settle 12 (.getfield 33) 3 15 := ⟨by decide +kernel, rfl⟩
theorem dX0_settle_15 : Dj cX0_settle 15 (fun o => .if_icmp .ge o) (43) 3 18 58 := ⟨by decide +kernel, rfl, by decide⟩
theorem dX0_settle_18 : Dn cX0_settle 18 (.aload_n 0) 1 19 := ⟨by decide +kernel, rfl⟩
theorem dX0_settle_19 : Dn cX0_settle 19 (.getfield 11) 3 22 := ⟨by decide +kernel, rfl⟩
theorem dX0_settle_22 : Dn cX0_settle 22 (.iload_n 3) 1 23 := ⟨by decide +kernel, rfl⟩
theorem dX0_settle_23 : Dn cX0_settle 23 (.aaload) 1 24 := ⟨by decide +kernel, rfl⟩
theorem dX0_settle_24 : Dn cX0_settle 24 (.getfield 37) 3 27 := ⟨by decide +kernel, rfl⟩
theorem dX0_settle_27 : Dn cX0_settle 27 (.invokevirtual 41) 3 30 := ⟨by decide +kernel, rfl⟩
theorem dX0_settle_30 : Dn cX0_settle 30 (.aload_n 0) 1 31 := ⟨by decide +kernel, rfl⟩
theorem dX0_settle_31 : Dn cX0_settle 31 (.getfield 11) 3 34 := ⟨by decide +kernel, rfl⟩
theorem dX0_settle_34 : Dn cX0_settle 34 (.iload_n 3) 1 35 := ⟨by decide +kernel, rfl⟩
theorem dX0_settle_35 : Dn cX0_settle 35 (.aaload) 1 36 := ⟨by decide +kernel, rfl⟩
theorem dX0_settle_36 : Dn cX0_settle 36 (.getfield 46) 3 39 := ⟨by decide +kernel, rfl⟩
theorem dX0_settle_39 : Dn cX0_settle 39 (.aload_n 0) 1 40 := ⟨by decide +kernel, rfl⟩
theorem dX0_settle_40 : Dn cX0_settle 40 (.getfield 11) 3 43 := ⟨by decide +kernel, rfl⟩
theorem dX0_settle_43 : Dn cX0_settle 43 (.iload_n 3) 1 44 := ⟨by decide +kernel, rfl⟩
theorem dX0_settle_44 : Dn cX0_settle 44 (.aaload) 1 45 := ⟨by decide +kernel, rfl⟩
theorem dX0_settle_45 : Dn cX0_settle 45 (.getfield 37) 3 48 := ⟨by decide +kernel, rfl⟩
theorem dX0_settle_48 : Dn cX0_settle 48 (.iload_n 1) 1 49 := ⟨by decide +kernel, rfl⟩
theorem dX0_settle_49 : Dn cX0_settle 49 (.invokevirtual 50) 3 52 := ⟨by decide +kernel, rfl⟩
theorem dX0_settle_52 : Dn cX0_settle 52 (.iinc 3 1) 3 55 := ⟨by decide +kernel, rfl⟩
theorem dX0_settle_55 : Dj cX0_settle 55 .goto (-45) 3 58 10 := ⟨by decide +kernel, rfl, by decide⟩
theorem dX0_settle_58 : Dn cX0_settle 58 (.iconst 0) 1 59 := ⟨by decide +kernel, rfl⟩
theorem dX0_settle_59 : Dn cX0_settle 59 (.istore_n 3) 1 60 := ⟨by decide +kernel, rfl⟩
theorem dX0_settle_60 : Dn cX0_settle 60 (.iload_n 3) 1 61 := ⟨by decide +kernel, rfl⟩
theorem dX0_settle_61 : Dn cX0_settle 61 (.aload_n 0) 1 62 := ⟨by decide +kernel, rfl⟩
theorem dX0_settle_62 : Dn cX0_settle 62 (.getfield 33) 3 65 := ⟨by decide +kernel, rfl⟩
theorem dX0_settle_65 : Dj cX0_settle 65 (fun o => .if_icmp .ge o) (63) 3 68 128 := ⟨by decide +kernel, rfl, by decide⟩
theorem dX0_settle_68 : Dn cX0_settle 68 (.iconst 0) 1 69 := ⟨by decide +kernel, rfl⟩
theorem dX0_settle_69 : Dn cX0_settle 69 (.istore 4) 2 71 := ⟨by decide +kernel, rfl⟩
theorem dX0_settle_71 : Dn cX0_settle 71 (.iload 4) 2 73 := ⟨by decide +kernel, rfl⟩
theorem dX0_settle_73 : Dn cX0_settle 73 (.aload_n 0) 1 74 := ⟨by decide +kernel, rfl⟩
theorem dX0_settle_74 : Dn cX0_settle 74 (.getfield 33) 3 77 := ⟨by decide +kernel, rfl⟩
theorem dX0_settle_77 : Dj cX0_settle 77 (fun o => .if_icmp .ge o) (45) 3 80 122 := ⟨by decide +kernel, rfl, by decide⟩
theorem dX0_settle_80 : Dn cX0_settle 80 (.iload_n 3) 1 81 := ⟨by decide +kernel, rfl⟩
theorem dX0_settle_81 : Dn cX0_settle 81 (.iload 4) 2 83 := ⟨by decide +kernel, rfl⟩
theorem dX0_settle_83 : Dj cX0_settle 83 (fun o => .if_icmp .eq o) (33) 3 86 116 := ⟨by decide +kernel, rfl, by decide⟩
theorem dX0_settle_86 : Dn cX0_settle 86 (.aload_n 0) 1 87 := ⟨by decide +kernel, rfl⟩
theorem dX0_settle_87 : Dn cX0_settle 87 (.iload_n 3) 1 88 := ⟨by decide +kernel, rfl⟩
theorem dX0_settle_88 : Dn cX0_settle 88 (.iload 4) 2 90 := ⟨by decide +kernel, rfl⟩
theorem dX0_settle_90 : Dn cX0_settle 90 (.invokevirtual 56) 3 93 := ⟨by decide +kernel, rfl⟩
theorem dX0_settle_93 : Dn cX0_settle 93 (.aload_n 0) 1 94 := ⟨by decide +kernel, rfl⟩
theorem dX0_settle_94 : Dn cX0_settle 94 (.getfield 11) 3 97 := ⟨by decide +kernel, rfl⟩
theorem dX0_settle_97 : Dn cX0_settle 97 (.iload_n 3) 1 98 := ⟨by decide +kernel, rfl⟩
theorem dX0_settle_98 : Dn cX0_settle 98 (.aaload) 1 99 := ⟨by decide +kernel, rfl⟩
theorem dX0_settle_99 : Dn cX0_settle 99 (.getfield 46) 3 102 := ⟨by decide +kernel, rfl⟩
theorem dX0_settle_102 : Dn cX0_settle 102 (.aload_n 0) 1 103 := ⟨by decide +kernel, rfl⟩
theorem dX0_settle_103 : Dn cX0_settle 103 (.getfield 11) 3 106 := ⟨by decide +kernel, rfl⟩
theorem dX0_settle_106 : Dn cX0_settle 106 (.iload 4) 2 108 := ⟨by decide +kernel, rfl⟩
theorem dX0_settle_108 : Dn cX0_settle 108 (.aaload) 1 109 := ⟨by decide +kernel, rfl⟩
theorem dX0_settle_109 : Dn cX0_settle 109 (.getfield 46) 3 112 := ⟨by decide +kernel, rfl⟩
theorem dX0_settle_112 : Dn cX0_settle 112 (.iload_n 2) 1 113 := ⟨by decide +kernel, rfl⟩
theorem dX0_settle_113 : Dn cX0_settle 113 (.invokevirtual 60) 3 116 := ⟨by decide +kernel, rfl⟩
theorem dX0_settle_116 : Dn cX0_settle 116 (.iinc 4 1) 3 119 := ⟨by decide +kernel, rfl⟩
theorem dX0_settle_119 : Dj cX0_settle 119 .goto (-48) 3 122 71 := ⟨by decide +kernel, rfl, by decide⟩
theorem dX0_settle_122 : Dn cX0_settle 122 (.iinc 3 1) 3 125 := ⟨by decide +kernel, rfl⟩
theorem dX0_settle_125 : Dj cX0_settle 125 .goto (-65) 3 128 60 := ⟨by decide +kernel, rfl, by decide⟩
theorem dX0_settle_128 : Dn cX0_settle 128 (.aload_n 0) 1 129 := ⟨by decide +kernel, rfl⟩
theorem dX0_settle_129 : Dn cX0_settle 129 (.invokevirtual 63) 3 132 := ⟨by decide +kernel, rfl⟩
theorem dX0_settle_132 : Dn cX0_settle 132 (.aload_n 0) 1 133 := ⟨by decide +kernel, rfl⟩
theorem dX0_settle_133 : Dn cX0_settle 133 (.iconst 0) 1 134 := ⟨by decide +kernel, rfl⟩
theorem dX0_settle_134 : Dn cX0_settle 134 (.putfield 29) 3 137 := ⟨by decide +kernel, rfl⟩
theorem dX0_settle_137 : Dn cX0_settle 137 (.return_) 1 138 := ⟨by decide +kernel, rfl⟩
theorem dX0_joinAll_0 : Dn cX0_joinAll 0 (.aload_n 0) 1 1 := ⟨by decide +kernel, rfl⟩
theorem dX0_joinAll_1 : Dn cX0_joinAll 1 (.iconst 0) 1 2 := ⟨by decide +kernel, rfl⟩
theorem dX0_joinAll_2 : Dn cX0_joinAll 2 (.putfield 66) 3 5 := ⟨by decide +kernel, rfl⟩
theorem dX0_joinAll_5 : Dn cX0_joinAll 5 (.iconst 0) 1 6 := ⟨by decide +kernel, rfl⟩
theorem dX0_joinAll_6 : Dn cX0_joinAll 6 (.istore_n 1) 1 7 := ⟨by decide +kernel, rfl⟩
theorem dX0_joinAll_7 : Dn cX0_joinAll 7 (.iload_n 1) 1 8 := ⟨by decide +kernel, rfl⟩
theorem dX0_joinAll_8 : Dn cX0_joinAll 8 (.aload_n 0) 1 9 := ⟨by decide +kernel, rfl⟩
theorem dX0_joinAll_9 : Dn cX0_joinAll 9 (.getfield 33) 3 12 := ⟨by decide +kernel, rfl⟩
theorem dX0_joinAll_12 : Dj cX0_joinAll 12 (fun o => .if_icmp .ge o) (20) 3 15 32 := ⟨by decide +kernel, rfl, by decide⟩
theorem dX0_joinAll_15 : Dn cX0_joinAll 15 (.aload_n 0) 1 16 := ⟨by decide +kernel, rfl⟩
theorem dX0_joinAll_16 : Dn cX0_joinAll 16 (.getfield 11) 3 19 := ⟨by decide +kernel, rfl⟩
theorem dX0_joinAll_19 : Dn cX0_joinAll 19 (.iload_n 1) 1 20 := ⟨by decide +kernel, rfl⟩
theorem dX0_joinAll_20 : Dn cX0_joinAll 20 (.aaload) 1 21 := ⟨by decide +kernel, rfl⟩
theorem dX0_joinAll_21 : Dn cX0_joinAll 21 (.bipush (-6)) 2 23 := ⟨by decide +kernel, rfl⟩
theorem dX0_joinAll_23 : Dn cX0_joinAll 23 (.putfield 69) 3 26 := ⟨by decide +kernel, rfl⟩
theorem dX0_joinAll_26 : Dn cX0_joinAll 26 (.iinc 1 1) 3 29 := ⟨by decide +kernel, rfl⟩
theorem dX0_joinAll_29 : Dj cX0_joinAll 29 .goto (-22) 3 32 7 := ⟨by decide +kernel, rfl, by decide⟩
theorem dX0_joinAll_32 : Dn cX0_joinAll 32 (.aload_n 0) 1 33 := ⟨by decide +kernel, rfl⟩
theorem dX0_joinAll_33 : Dn cX0_joinAll 33 (.getfield 33) 3 36 := ⟨by decide +kernel, rfl⟩
theorem dX0_joinAll_36 : Dj cX0_joinAll 36 (fun o => .ifCond .le o) (12) 3 39 48 := ⟨by decide +kernel, rfl, by decide⟩
theorem dX0_joinAll_39 : Dn cX0_joinAll 39 (.aload_n 0) 1 40 := ⟨by decide +kernel, rfl⟩
theorem dX0_joinAll_40 : Dn cX0_joinAll 40 (.iconst 0) 1 41 := ⟨by decide +kernel, rfl⟩
theorem dX0_joinAll_41 : Dn cX0_joinAll 41 (.iconst 0) 1 42 := ⟨by decide +kernel, rfl⟩
theorem dX0_joinAll_42 : Dn cX0_joinAll 42 (.iconst 0) 1 43 := ⟨by decide +kernel, rfl⟩
theorem dX0_joinAll_43 : Dn cX0_joinAll 43 (.bipush (-6)) 2 45 := ⟨by decide +kernel, rfl⟩
theorem dX0_joinAll_45 : Dn cX0_joinAll 45 (.invokevirtual 72) 3 48 := ⟨by decide +kernel, rfl⟩
theorem dX0_joinAll_48 : Dn cX0_joinAll 48 (.iconst 1) 1 49 := ⟨by decide +kernel, rfl⟩
theorem dX0_joinAll_49 : Dn cX0_joinAll 49 (.istore_n 1) 1 50 := ⟨by decide +kernel, rfl⟩
theorem dX0_joinAll_50 : Dn cX0_joinAll 50 (.iload_n 1) 1 51 := ⟨by decide +kernel, rfl⟩
theorem dX0_joinAll_51 : Dn cX0_joinAll 51 (.aload_n 0) 1 52 := ⟨by decide +kernel, rfl⟩
theorem dX0_joinAll_52 : Dn cX0_joinAll 52 (.getfield 33) 3 55 := ⟨by decide +kernel, rfl⟩
theorem dX0_joinAll_55 : Dj cX0_joinAll 55 (fun o => .if_icmp .ge o) (71) 3 58 126 := ⟨by decide +kernel, rfl, by decide⟩
theorem dX0_joinAll_58 : Dn cX0_joinAll 58 (.aload_n 0) 1 59 := ⟨by decide +kernel, rfl⟩
theorem dX0_joinAll_59 : Dn cX0_joinAll 59 (.invokevirtual 76) 3 62 := ⟨by decide +kernel, rfl⟩
theorem dX0_joinAll_62 : Dn cX0_joinAll 62 (.istore_n 2) 1 63 := ⟨by decide +kernel, rfl⟩
theorem dX0_joinAll_63 : Dn cX0_joinAll 63 (.iload_n 2) 1 64 := ⟨by decide +kernel, rfl⟩
theorem dX0_joinAll_64 : Dn cX0_joinAll 64 (.bipush (-6)) 2 66 := ⟨by decide +kernel, rfl⟩
theorem dX0_joinAll_66 : Dj cX0_joinAll 66 (fun o => .if_icmp .ne o) (4) 3 69 70 := ⟨by decide +kernel, rfl, by decide⟩
theorem dX0_joinAll_69 : Dn cX0_joinAll 69 (.return_) 1 70 := ⟨by decide +kernel, rfl⟩
theorem dX0_joinAll_70 : Dn cX0_joinAll 70 (.iload_n 2) 1 71 := ⟨by decide +kernel, rfl⟩
theorem dX0_joinAll_71 : Dn cX0_joinAll 71 (.iconst 4) 1 72 := ⟨by decide +kernel, rfl⟩
theorem dX0_joinAll_72 : Dn cX0_joinAll 72 (.idiv) 1 73 := ⟨by decide +kernel, rfl⟩
theorem dX0_joinAll_73 : Dn cX0_joinAll 73 (.istore_n 3) 1 74 := ⟨by decide +kernel, rfl⟩
theorem dX0_joinAll_74 : Dn cX0_joinAll 74 (.aload_n 0) 1 75 := ⟨by decide +kernel, rfl⟩
theorem dX0_joinAll_75 : Dn cX0_joinAll 75 (.iload_n 2) 1 76 := ⟨by decide +kernel, rfl⟩
theorem dX0_joinAll_76 : Dn cX0_joinAll 76 (.iconst 4) 1 77 := ⟨by decide +kernel, rfl⟩
theorem dX0_joinAll_77 : Dn cX0_joinAll 77 (.irem) 1 78 := ⟨by decide +kernel, rfl⟩
theorem dX0_joinAll_78 : Dn cX0_joinAll 78 (.aload_n 0) 1 79 := ⟨by decide +kernel, rfl⟩
theorem dX0_joinAll_79 : Dn cX0_joinAll 79 (.getfield 11) 3 82 := ⟨by decide +kernel, rfl⟩
theorem dX0_joinAll_82 : Dn cX0_joinAll 82 (.iload_n 3) 1 83 := ⟨by decide +kernel, rfl⟩
theorem dX0_joinAll_83 : Dn cX0_joinAll 83 (.aaload) 1 84 := ⟨by decide +kernel, rfl⟩
theorem dX0_joinAll_84 : Dn cX0_joinAll 84 (.getfield 80) 3 87 := ⟨by decide +kernel, rfl⟩
theorem dX0_joinAll_87 : Dn cX0_joinAll 87 (.aload_n 0) 1 88 := ⟨by decide +kernel, rfl⟩
theorem dX0_joinAll_88 : Dn cX0_joinAll 88 (.getfield 19) 3 91 := ⟨by decide +kernel, rfl⟩
theorem dX0_joinAll_91 : Dn cX0_joinAll 91 (.iload_n 2) 1 92 := ⟨by decide +kernel, rfl⟩
theorem dX0_joinAll_92 : Dn cX0_joinAll 92 (.aaload) 1 93 := ⟨by decide +kernel, rfl⟩
theorem dX0_joinAll_93 : Dn cX0_joinAll 93 (.getfield 83) 3 96 := ⟨by decide +kernel, rfl⟩
theorem dX0_joinAll_96 : Dn cX0_joinAll 96 (.iadd) 1 97 := ⟨by decide +kernel, rfl⟩
theorem dX0_joinAll_97 : Dn cX0_joinAll 97 (.aload_n 0) 1 98 := ⟨by decide +kernel, rfl⟩
theorem dX0_joinAll_98 : Dn cX0_joinAll 98 (.getfield 11) 3 101 := ⟨by decide +kernel, rfl⟩
theorem dX0_joinAll_101 : Dn cX0_joinAll 101 (.iload_n 3) 1 102 := ⟨by decide +kernel, rfl⟩
theorem dX0_joinAll_102 : Dn cX0_joinAll 102 (.aaload) 1 103 := ⟨by decide +kernel, rfl⟩
theorem dX0_joinAll_103 : Dn cX0_joinAll 103 (.getfield 84) 3 106 := ⟨by decide +kernel, rfl⟩
theorem dX0_joinAll_106 : Dn cX0_joinAll 106 (.aload_n 0) 1 107 := ⟨by decide +kernel, rfl⟩
theorem dX0_joinAll_107 : Dn cX0_joinAll 107 (.getfield 19) 3 110 := ⟨by decide +kernel, rfl⟩
theorem dX0_joinAll_110 : Dn cX0_joinAll 110 (.iload_n 2) 1 111 := ⟨by decide +kernel, rfl⟩
theorem dX0_joinAll_111 : Dn cX0_joinAll 111 (.aaload) 1 112 := ⟨by decide +kernel, rfl⟩
theorem dX0_joinAll_112 : Dn cX0_joinAll 112 (.getfield 87) 3 115 := ⟨by decide +kernel, rfl⟩
theorem dX0_joinAll_115 : Dn cX0_joinAll 115 (.iadd) 1 116 := ⟨by decide +kernel, rfl⟩
theorem dX0_joinAll_116 : Dn cX0_joinAll 116 (.iload_n 3) 1 117 := ⟨by decide +kernel, rfl⟩
theorem dX0_joinAll_117 : Dn cX0_joinAll 117 (.invokevirtual 72) 3 120 := ⟨by decide +kernel, rfl⟩
theorem dX0_joinAll_120 : Dn cX0_joinAll 120 (.iinc 1 1) 3 123 := ⟨by decide +kernel, rfl⟩
theorem dX0_joinAll_123 : Dj cX0_joinAll 123 .goto (-73) 3 126 50 := ⟨by decide +kernel, rfl, by decide⟩
theorem dX0_joinAll_126 : Dn cX0_joinAll 126 (.return_) 1 127 := ⟨by decide +kernel, rfl⟩
theorem dX0_put_0 : Dn cX0_put 0 (.aload_n 0) 1 1 := ⟨by decide +kernel, rfl⟩
theorem dX0_put_1 : Dn cX0_put 1 (.getfield 11) 3 4 := ⟨by decide +kernel, rfl⟩
theorem dX0_put_4 : Dn cX0_put 4 (.iload_n 1) 1 5 := ⟨by decide +kernel, rfl⟩
theorem dX0_put_5 : Dn cX0_put 5 (.aaload) 1 6 := ⟨by decide +kernel, rfl⟩
theorem dX0_put_6 : Dn cX0_put 6 (.astore 5) 2 8 := ⟨by decide +kernel, rfl⟩
theorem dX0_put_8 : Dn cX0_put 8 (.aload 5) 2 10 := ⟨by decide +kernel, rfl⟩
theorem dX0_put_10 : Dn cX0_put 10 (.iload_n 2) 1 11 := ⟨by decide +kernel, rfl⟩
theorem dX0_put_11 : Dn cX0_put 11 (.putfield 80) 3 14 := ⟨by decide +kernel, rfl⟩
theorem dX0_put_14 : Dn cX0_put 14 (.aload 5) 2 16 := ⟨by decide +kernel, rfl⟩
theorem dX0_put_16 : Dn cX0_put 16 (.iload_n 3) 1 17 := ⟨by decide +kernel, rfl⟩
theorem dX0_put_17 : Dn cX0_put 17 (.putfield 84) 3 20 := ⟨by decide +kernel, rfl⟩
theorem dX0_put_20 : Dn cX0_put 20 (.aload 5) 2 22 := ⟨by decide +kernel, rfl⟩
theorem dX0_put_22 : Dn cX0_put 22 (.iload 4) 2 24 := ⟨by decide +kernel, rfl⟩
theorem dX0_put_24 : Dn cX0_put 24 (.putfield 88) 3 27 := ⟨by decide +kernel, rfl⟩
theorem dX0_put_27 : Dn cX0_put 27 (.aload 5) 2 29 := ⟨by decide +kernel, rfl⟩
theorem dX0_put_29 : Dn cX0_put 29 (.aload_n 0) 1 30 := ⟨by decide +kernel, rfl⟩
theorem dX0_put_30 : Dn cX0_put 30 (.getfield 66) 3 33 := ⟨by decide +kernel, rfl⟩
theorem dX0_put_33 : Dn cX0_put 33 (.putfield 69) 3 36 := ⟨by decide +kernel, rfl⟩
theorem dX0_put_36 : Dn cX0_put 36 (.aload_n 0) 1 37 := ⟨by decide +kernel, rfl⟩
theorem dX0_put_37 : Dn cX0_put 37 (.getfield 23) 3 40 := ⟨by decide +kernel, rfl⟩
theorem dX0_put_40 : Dn cX0_put 40 (.aload_n 0) 1 41 := ⟨by decide +kernel, rfl⟩
theorem dX0_put_41 : Dn cX0_put 41 (.getfield 66) 3 44 := ⟨by decide +kernel, rfl⟩
theorem dX0_put_44 : Dn cX0_put 44 (.iload_n 1) 1 45 := ⟨by decide +kernel, rfl⟩
theorem dX0_put_45 : Dn cX0_put 45 (.iastore) 1 46 := ⟨by decide +kernel, rfl⟩
theorem dX0_put_46 : Dn cX0_put 46 (.aload_n 0) 1 47 := ⟨by decide +kernel, rfl⟩
theorem dX0_put_47 : Dn cX0_put 47 (.dup) 1 48 := ⟨by decide +kernel, rfl⟩
theorem dX0_put_48 : Dn cX0_put 48 (.getfield 66) 3 51 := ⟨by decide +kernel, rfl⟩
theorem dX0_put_51 : Dn cX0_put 51 (.iconst 1) 1 52 := ⟨by decide +kernel, rfl⟩
theorem dX0_put_52 : Dn cX0_put 52 (.iadd) 1 53 := ⟨by decide +kernel, rfl⟩
theorem dX0_put_53 : Dn cX0_put 53 (.putfield 66) 3 56 := ⟨by decide +kernel, rfl⟩
theorem dX0_put_56 : Dn cX0_put 56 (.return_) 1 57 := ⟨by decide +kernel, rfl⟩
theorem dX0_bestPair_0 : Dn cX0_bestPair 0 (.bipush (-6)) 2 2 := ⟨by decide +kernel, rfl⟩
theorem dX0_bestPair_2 : Dn cX0_bestPair 2 (.istore_n 1) 1 3 := ⟨by decide +kernel, rfl⟩
theorem dX0_bestPair_3 : Dn cX0_bestPair 3 (.iconst 0) 1 4 := ⟨by decide +kernel, rfl⟩
theorem dX0_bestPair_4 : Dn cX0_bestPair 4 (.istore_n 2) 1 5 := ⟨by decide +kernel, rfl⟩
theorem dX0_bestPair_5 : Dn cX0_bestPair 5 (.iconst 0) 1 6 := ⟨by decide +kernel, rfl⟩
theorem dX0_bestPair_6 : Dn cX0_bestPair 6 (.istore_n 3) 1 7 := ⟨by decide +kernel, rfl⟩
theorem dX0_bestPair_7 : Dn cX0_bestPair 7 (.iload_n 3) 1 8 := ⟨by decide +kernel, rfl⟩
theorem dX0_bestPair_8 : Dn cX0_bestPair 8 (.aload_n 0) 1 9 := ⟨by decide +kernel, rfl⟩
theorem dX0_bestPair_9 : Dn cX0_bestPair 9 (.getfield 33) 3 12 := ⟨by decide +kernel, rfl⟩
theorem dX0_bestPair_12 : Dj cX0_bestPair 12 (fun o => .if_icmp .ge o) (96) 3 15 108 := ⟨by decide +kernel, rfl, by decide⟩
theorem dX0_bestPair_15 : Dn cX0_bestPair 15 (.iconst 0) 1 16 := ⟨by decide +kernel, rfl⟩
theorem dX0_bestPair_16 : Dn cX0_bestPair 16 (.istore 4) 2 18 := ⟨by decide +kernel, rfl⟩
theorem dX0_bestPair_18 : Dn cX0_bestPair 18 (.iload 4) 2 20 := ⟨by decide +kernel, rfl⟩
theorem dX0_bestPair_20 : Dn cX0_bestPair 20 (.aload_n 0) 1 21 := ⟨by decide +kernel, rfl⟩
theorem dX0_bestPair_21 : Dn cX0_bestPair 21 (.getfield 33) 3 24 := ⟨by decide +kernel, rfl⟩
theorem dX0_bestPair_24 : Dj cX0_bestPair 24 (fun o => .if_icmp .ge o) (78) 3 27 102 := ⟨by decide +kernel, rfl, by decide⟩
theorem dX0_bestPair_27 : Dn cX0_bestPair 27 (.aload_n 0) 1 28 := ⟨by decide +kernel, rfl⟩
theorem dX0_bestPair_28 : Dn cX0_bestPair 28 (.getfield 11) 3 31 := ⟨by decide +kernel, rfl⟩
theorem dX0_bestPair_31 : Dn cX0_bestPair 31 (.iload_n 3) 1 32 := ⟨by decide +kernel, rfl⟩
theorem dX0_bestPair_32 : Dn cX0_bestPair 32 (.aaload) 1 33 := ⟨by decide +kernel, rfl⟩
theorem dX0_bestPair_33 : Dn cX0_bestPair 33 (.invokevirtual 91) 3 36 := ⟨by decide +kernel, rfl⟩
theorem dX0_bestPair_36 : Dj cX0_bestPair 36 (fun o => .ifCond .eq o) (20) 3 39 56 := ⟨by decide +kernel, rfl, by decide⟩
theorem dX0_bestPair_39 : Dn cX0_bestPair 39 (.aload_n 0) 1 40 := ⟨by decide +kernel, rfl⟩
theorem dX0_bestPair_40 : Dn cX0_bestPair 40 (.getfield 11) 3 43 := ⟨by decide +kernel, rfl⟩
theorem dX0_bestPair_43 : Dn cX0_bestPair 43 (.iload 4) 2 45 := ⟨by decide +kernel, rfl⟩
theorem dX0_bestPair_45 : Dn cX0_bestPair 45 (.aaload) 1 46 := ⟨by decide +kernel, rfl⟩
theorem dX0_bestPair_46 : Dn cX0_bestPair 46 (.invokevirtual 91) 3 49 := ⟨by decide +kernel, rfl⟩
theorem dX0_bestPair_49 : Dj cX0_bestPair 49 (fun o => .ifCond .ne o) (7) 3 52 56 := ⟨by decide +kernel, rfl, by decide⟩
theorem dX0_bestPair_52 : Dn cX0_bestPair 52 (.iconst 1) 1 53 := ⟨by decide +kernel, rfl⟩
theorem dX0_bestPair_53 : Dj cX0_bestPair 53 .goto (4) 3 56 57 := ⟨by decide +kernel, rfl, by decide⟩
theorem dX0_bestPair_56 : Dn cX0_bestPair 56 (.iconst 0) 1 57 := ⟨by decide +kernel, rfl⟩
theorem dX0_bestPair_57 : Dn cX0_bestPair 57 (.istore 5) 2 59 := ⟨by decide +kernel, rfl⟩
theorem dX0_bestPair_59 : Dn cX0_bestPair 59 (.iload 5) 2 61 := ⟨by decide +kernel, rfl⟩
theorem dX0_bestPair_61 : Dj cX0_bestPair 61 (fun o => .ifCond .eq o) (35) 3 64 96 := ⟨by decide +kernel, rfl, by decide⟩
theorem dX0_bestPair_64 : Dn cX0_bestPair 64 (.aload_n 0) 1 65 := ⟨by decide +kernel, rfl⟩
theorem dX0_bestPair_65 : Dn cX0_bestPair 65 (.iload_n 3) 1 66 := ⟨by decide +kernel, rfl⟩
theorem dX0_bestPair_66 : Dn cX0_bestPair 66 (.iload 4) 2 68 := ⟨by decide +kernel, rfl⟩
theorem dX0_bestPair_68 : Dn cX0_bestPair 68 (.invokevirtual 56) 3 71 := ⟨by decide +kernel, rfl⟩
theorem dX0_bestPair_71 : Dn cX0_bestPair 71 (.getfield 95) 3 74 := ⟨by decide +kernel, rfl⟩
theorem dX0_bestPair_74 : Dn cX0_bestPair 74 (.iload_n 2) 1 75 := ⟨by decide +kernel, rfl⟩
theorem dX0_bestPair_75 : Dj cX0_bestPair 75 (fun o => .if_icmp .le o) (21) 3 78 96 := ⟨by decide +kernel, rfl, by decide⟩
theorem dX0_bestPair_78 : Dn cX0_bestPair 78 (.aload_n 0) 1 79 := ⟨by decide +kernel, rfl⟩
theorem dX0_bestPair_79 : Dn cX0_bestPair 79 (.iload_n 3) 1 80 := ⟨by decide +kernel, rfl⟩
theorem dX0_bestPair_80 : Dn cX0_bestPair 80 (.iload 4) 2 82 := ⟨by decide +kernel, rfl⟩
theorem dX0_bestPair_82 : Dn cX0_bestPair 82 (.invokevirtual 56) 3 85 := ⟨by decide +kernel, rfl⟩
theorem dX0_bestPair_85 : Dn cX0_bestPair 85 (.getfield 95) 3 88 := ⟨by decide +kernel, rfl⟩
theorem dX0_bestPair_88 : Dn cX0_bestPair 88 (.istore_n 2) 1 89 := ⟨by decide +kernel, rfl⟩
theorem dX0_bestPair_89 : Dn cX0_bestPair 89 (.iload_n 3) 1 90 := ⟨by decide +kernel, rfl⟩
theorem dX0_bestPair_90 : Dn cX0_bestPair 90 (.iconst 4) 1 91 := ⟨by decide +kernel, rfl⟩
theorem dX0_bestPair_91 : Dn cX0_bestPair 91 (.imul) 1 92 := ⟨by decide +kernel, rfl⟩
theorem dX0_bestPair_92 : Dn cX0_bestPair 92 (.iload 4) 2 94 := ⟨by decide +kernel, rfl⟩
theorem dX0_bestPair_94 : Dn cX0_bestPair 94 (.iadd) 1 95 := ⟨by decide +kernel, rfl⟩
theorem dX0_bestPair_95 : Dn cX0_bestPair 95 (.istore_n 1) 1 96 := ⟨by decide +kernel, rfl⟩
theorem dX0_bestPair_96 : Dn cX0_bestPair 96 (.iinc 4 1) 3 99 := ⟨by decide +kernel, rfl⟩
theorem dX0_bestPair_99 : Dj cX0_bestPair 99 .goto (-81) 3 102 18 := ⟨by decide +kernel, rfl, by decide⟩
theorem dX0_bestPair_102 : Dn cX0_bestPair 102 (.iinc 3 1) 3 105 := ⟨by decide +kernel, rfl⟩
theorem dX0_bestPair_105 : Dj cX0_bestPair 105 .goto (-98) 3 108 7 := ⟨by decide +kernel, rfl, by decide⟩
theorem dX0_bestPair_108 : Dn cX0_bestPair 108 (.iload_n 1) 1 109 := ⟨by decide +kernel, rfl⟩
theorem dX0_bestPair_109 : Dn cX0_bestPair 109 (.ireturn) 1 110 := ⟨by decide +kernel, rfl⟩
theorem dX0_countOpen_0 : Dn cX0_countOpen 0 (.iconst 0) 1 1 := ⟨by decide +kernel, rfl⟩
theorem dX0_countOpen_1 : Dn cX0_countOpen 1 (.istore_n 1) 1 2 := ⟨by decide +kernel, rfl⟩
theorem dX0_countOpen_2 : Dn cX0_countOpen 2 (.iconst 0) 1 3 := ⟨by decide +kernel, rfl⟩
theorem dX0_countOpen_3 : Dn cX0_countOpen 3 (.istore_n 2) 1 4 := ⟨by decide +kernel, rfl⟩
theorem dX0_countOpen_4 : Dn cX0_countOpen 4 (.iload_n 2) 1 5 := ⟨by decide +kernel, rfl⟩
theorem dX0_countOpen_5 : Dn cX0_countOpen 5 (.aload_n 0) 1 6 := ⟨by decide +kernel, rfl⟩
theorem dX0_countOpen_6 : Dn cX0_countOpen 6 (.getfield 33) 3 9 := ⟨by decide +kernel, rfl⟩
theorem dX0_countOpen_9 : Dj cX0_countOpen 9 (fun o => .if_icmp .ge o) (39) 3 12 48 := ⟨by decide +kernel, rfl, by decide⟩
theorem dX0_countOpen_12 : Dn cX0_countOpen 12 (.iload_n 2) 1 13 := ⟨by decide +kernel, rfl⟩
theorem dX0_countOpen_13 : Dn cX0_countOpen 13 (.iconst 1) 1 14 := ⟨by decide +kernel, rfl⟩
theorem dX0_countOpen_14 : Dn cX0_countOpen 14 (.iadd) 1 15 := ⟨by decide +kernel, rfl⟩
theorem dX0_countOpen_15 : Dn cX0_countOpen 15 (.istore_n 3) 1 16 := ⟨by decide +kernel, rfl⟩
theorem dX0_countOpen_16 : Dn cX0_countOpen 16 (.iload_n 3) 1 17 := ⟨by decide +kernel, rfl⟩
theorem dX0_countOpen_17 : Dn cX0_countOpen 17 (.aload_n 0) 1 18 := ⟨by decide +kernel, rfl⟩
theorem dX0_countOpen_18 : Dn cX0_countOpen 18 (.getfield 33) 3 21 := ⟨by decide +kernel, rfl⟩
theorem dX0_countOpen_21 : Dj cX0_countOpen 21 (fun o => .if_icmp .ge o) (21) 3 24 42 := ⟨by decide +kernel, rfl, by decide⟩
theorem dX0_countOpen_24 : Dn cX0_countOpen 24 (.aload_n 0) 1 25 := ⟨by decide +kernel, rfl⟩
theorem dX0_countOpen_25 : Dn cX0_countOpen 25 (.iload_n 2) 1 26 := ⟨by decide +kernel, rfl⟩
theorem dX0_countOpen_26 : Dn cX0_countOpen 26 (.iload_n 3) 1 27 := ⟨by decide +kernel, rfl⟩
theorem dX0_countOpen_27 : Dn cX0_countOpen 27 (.invokevirtual 98) 3 30 := ⟨by decide +kernel, rfl⟩
theorem dX0_countOpen_30 : Dj cX0_countOpen 30 (fun o => .ifCond .eq o) (6) 3 33 36 := ⟨by decide +kernel, rfl, by decide⟩
theorem dX0_countOpen_33 : Dn cX0_countOpen 33 (.iinc 1 1) 3 36 := ⟨by decide +kernel, rfl⟩
theorem dX0_countOpen_36 : Dn cX0_countOpen 36 (.iinc 3 1) 3 39 := ⟨by decide +kernel, rfl⟩
theorem dX0_countOpen_39 : Dj cX0_countOpen 39 .goto (-23) 3 42 16 := ⟨by decide +kernel, rfl, by decide⟩
theorem dX0_countOpen_42 : Dn cX0_countOpen 42 (.iinc 2 1) 3 45 := ⟨by decide +kernel, rfl⟩
theorem dX0_countOpen_45 : Dj cX0_countOpen 45 .goto (-41) 3 48 4 := ⟨by decide +kernel, rfl, by decide⟩
theorem dX0_countOpen_48 : Dn cX0_countOpen 48 (.iload_n 1) 1 49 := ⟨by decide +kernel, rfl⟩
theorem dX0_countOpen_49 : Dn cX0_countOpen 49 (.ireturn) 1 50 := ⟨by decide +kernel, rfl⟩
theorem dX0_isOpen_0 : Dn cX0_isOpen 0 (.aload_n 0) 1 1 := ⟨by decide +kernel, rfl⟩
theorem dX0_isOpen_1 : Dn cX0_isOpen 1 (.getfield 11) 3 4 := ⟨by decide +kernel, rfl⟩
theorem dX0_isOpen_4 : Dn cX0_isOpen 4 (.iload_n 1) 1 5 := ⟨by decide +kernel, rfl⟩
theorem dX0_isOpen_5 : Dn cX0_isOpen 5 (.aaload) 1 6 := ⟨by decide +kernel, rfl⟩
theorem dX0_isOpen_6 : Dn cX0_isOpen 6 (.astore_n 3) 1 7 := ⟨by decide +kernel, rfl⟩
theorem dX0_isOpen_7 : Dn cX0_isOpen 7 (.aload_n 0) 1 8 := ⟨by decide +kernel, rfl⟩
theorem dX0_isOpen_8 : Dn cX0_isOpen 8 (.getfield 11) 3 11 := ⟨by decide +kernel, rfl⟩
theorem dX0_isOpen_11 : Dn cX0_isOpen 11 (.iload_n 2) 1 12 := ⟨by decide +kernel, rfl⟩
theorem dX0_isOpen_12 : Dn cX0_isOpen 12 (.aaload) 1 13 := ⟨by decide +kernel, rfl⟩
theorem dX0_isOpen_13 : Dn cX0_isOpen 13 (.astore 4) 2 15 := ⟨by decide +kernel, rfl⟩
theorem dX0_isOpen_15 : Dn cX0_isOpen 15 (.aload_n 0) 1 16 := ⟨by decide +kernel, rfl⟩
theorem dX0_isOpen_16 : Dn cX0_isOpen 16 (.iload_n 1) 1 17 := ⟨by decide +kernel, rfl⟩
theorem dX0_isOpen_17 : Dn cX0_isOpen 17 (.iload_n 2) 1 18 := ⟨by decide +kernel, rfl⟩
theorem dX0_isOpen_18 : Dn cX0_isOpen 18 (.invokevirtual 56) 3 21 := ⟨by decide +kernel, rfl⟩
theorem dX0_isOpen_21 : Dn cX0_isOpen 21 (.astore 5) 2 23 := ⟨by decide +kernel, rfl⟩
theorem dX0_isOpen_23 : Dn cX0_isOpen 23 (.aload_n 3) 1 24 := ⟨by decide +kernel, rfl⟩
theorem dX0_isOpen_24 : Dn cX0_isOpen 24 (.invokevirtual 91) 3 27 := ⟨by decide +kernel, rfl⟩
theorem dX0_isOpen_27 : Dj cX0_isOpen 27 (fun o => .ifCond .eq o) (19) 3 30 46 := ⟨by decide +kernel, rfl, by decide⟩
theorem dX0_isOpen_30 : Dn cX0_isOpen 30 (.aload 4) 2 32 := ⟨by decide +kernel, rfl⟩
theorem dX0_isOpen_32 : Dn cX0_isOpen 32 (.invokevirtual 91) 3 35 := ⟨by decide +kernel, rfl⟩
theorem dX0_isOpen_35 : Dj cX0_isOpen 35 (fun o => .ifCond .eq o) (11) 3 38 46 := ⟨by decide +kernel, rfl, by decide⟩
theorem dX0_isOpen_38 : Dn cX0_isOpen 38 (.aload 5) 2 40 := ⟨by decide +kernel, rfl⟩
theorem dX0_isOpen_40 : Dn cX0_isOpen 40 (.getfield 95) 3 43 := ⟨by decide +kernel, rfl⟩
theorem dX0_isOpen_43 : Dj cX0_isOpen 43 (fun o => .ifCond .ne o) (5) 3 46 48 := ⟨by decide +kernel, rfl, by decide⟩
theorem dX0_isOpen_46 : Dn cX0_isOpen 46 (.iconst 0) 1 47 := ⟨by decide +kernel, rfl⟩
theorem dX0_isOpen_47 : Dn cX0_isOpen 47 (.ireturn) 1 48 := ⟨by decide +kernel, rfl⟩
theorem dX0_isOpen_48 : Dn cX0_isOpen 48 (.aload_n 3) 1 49 := ⟨by decide +kernel, rfl⟩
theorem dX0_isOpen_49 : Dn cX0_isOpen 49 (.getfield 88) 3 52 := ⟨by decide +kernel, rfl⟩
theorem dX0_isOpen_52 : Dn cX0_isOpen 52 (.iload_n 2) 1 53 := ⟨by decide +kernel, rfl⟩
theorem dX0_isOpen_53 : Dj cX0_isOpen 53 (fun o => .if_icmp .eq o) (12) 3 56 65 := ⟨by decide +kernel, rfl, by decide⟩
theorem dX0_isOpen_56 : Dn cX0_isOpen 56 (.aload 4) 2 58 := ⟨by decide +kernel, rfl⟩
theorem dX0_isOpen_58 : Dn cX0_isOpen 58 (.getfield 88) 3 61 := ⟨by decide +kernel, rfl⟩
theorem dX0_isOpen_61 : Dn cX0_isOpen 61 (.iload_n 1) 1 62 := ⟨by decide +kernel, rfl⟩
theorem dX0_isOpen_62 : Dj cX0_isOpen 62 (fun o => .if_icmp .ne o) (5) 3 65 67 := ⟨by decide +kernel, rfl, by decide⟩
theorem dX0_isOpen_65 : Dn cX0_isOpen 65 (.iconst 0) 1 66 := ⟨by decide +kernel, rfl⟩
theorem dX0_isOpen_66 : Dn cX0_isOpen 66 (.ireturn) 1 67 := ⟨by decide +kernel, rfl⟩
theorem dX0_isOpen_67 : Dn cX0_isOpen 67 (.aload 4) 2 69 := ⟨by decide +kernel, rfl⟩
theorem dX0_isOpen_69 : Dn cX0_isOpen 69 (.getfield 80) 3 72 := ⟨by decide +kernel, rfl⟩
theorem dX0_isOpen_72 : Dn cX0_isOpen 72 (.aload_n 3) 1 73 := ⟨by decide +kernel, rfl⟩
theorem dX0_isOpen_73 : Dn cX0_isOpen 73 (.getfield 80) 3 76 := ⟨by decide +kernel, rfl⟩
theorem dX0_isOpen_76 : Dn cX0_isOpen 76 (.aload 5) 2 78 := ⟨by decide +kernel, rfl⟩
theorem dX0_isOpen_78 : Dn cX0_isOpen 78 (.getfield 83) 3 81 := ⟨by decide +kernel, rfl⟩
theorem dX0_isOpen_81 : Dn cX0_isOpen 81 (.iadd) 1 82 := ⟨by decide +kernel, rfl⟩
theorem dX0_isOpen_82 : Dj cX0_isOpen 82 (fun o => .if_icmp .ne o) (21) 3 85 103 := ⟨by decide +kernel, rfl, by decide⟩
theorem dX0_isOpen_85 : Dn cX0_isOpen 85 (.aload 4) 2 87 := ⟨by decide +kernel, rfl⟩
theorem dX0_isOpen_87 : Dn cX0_isOpen 87 (.getfield 84) 3 90 := ⟨by decide +kernel, rfl⟩
theorem dX0_isOpen_90 : Dn cX0_isOpen 90 (.aload_n 3) 1 91 := ⟨by decide +kernel, rfl⟩
theorem dX0_isOpen_91 : Dn cX0_isOpen 91 (.getfield 84) 3 94 := ⟨by decide +kernel, rfl⟩
theorem dX0_isOpen_94 : Dn cX0_isOpen 94 (.aload 5) 2 96 := ⟨by decide +kernel, rfl⟩
theorem dX0_isOpen_96 : Dn cX0_isOpen 96 (.getfield 87) 3 99 := ⟨by decide +kernel, rfl⟩
theorem dX0_isOpen_99 : Dn cX0_isOpen 99 (.iadd) 1 100 := ⟨by decide +kernel, rfl⟩
theorem dX0_isOpen_100 : Dj cX0_isOpen 100 (fun o => .if_icmp .eq o) (7) 3 103 107 := ⟨by decide +kernel, rfl, by decide⟩
theorem dX0_isOpen_103 : Dn cX0_isOpen 103 (.iconst 1) 1 104 := ⟨by decide +kernel, rfl⟩
theorem dX0_isOpen_104 : Dj cX0_isOpen 104 .goto (4) 3 107 108 := ⟨by decide +kernel, rfl, by decide⟩
theorem dX0_isOpen_107 : Dn cX0_isOpen 107 (.iconst 0) 1 108 := ⟨by decide +kernel, rfl⟩
theorem dX0_isOpen_108 : Dn cX0_isOpen 108 (.ireturn) 1 109 := ⟨by decide +kernel, rfl⟩
theorem dX0_firstAt_0 : Dn cX0_firstAt 0 (.iconst 0) 1 1 := ⟨by decide +kernel, rfl⟩
theorem dX0_firstAt_1 : Dn cX0_firstAt 1 (.istore_n 3) 1 2 := ⟨by decide +kernel, rfl⟩
theorem dX0_firstAt_2 : Dn cX0_firstAt 2 (.iload_n 3) 1 3 := ⟨by decide +kernel, rfl⟩
theorem dX0_firstAt_3 : Dn cX0_firstAt 3 (.aload_n 0) 1 4 := ⟨by decide +kernel, rfl⟩
theorem dX0_firstAt_4 : Dn cX0_firstAt 4 (.getfield 66) 3 7 := ⟨by decide +kernel, rfl⟩
theorem dX0_firstAt_7 : Dj cX0_firstAt 7 (fun o => .if_icmp .ge o) (36) 3 10 43 := ⟨by decide +kernel, rfl, by decide⟩
theorem dX0_firstAt_10 : Dn cX0_firstAt 10 (.aload_n 0) 1 11 := ⟨by decide +kernel, rfl⟩
theorem dX0_firstAt_11 : Dn cX0_firstAt 11 (.getfield 11) 3 14 := ⟨by decide +kernel, rfl⟩
theorem dX0_firstAt_14 : Dn cX0_firstAt 14 (.aload_n 0) 1 15 := ⟨by decide +kernel, rfl⟩
theorem dX0_firstAt_15 : Dn cX0_firstAt 15 (.getfield 23) 3 18 := ⟨by decide +kernel, rfl⟩
theorem dX0_firstAt_18 : Dn cX0_firstAt 18 (.iload_n 3) 1 19 := ⟨by decide +kernel, rfl⟩
theorem dX0_firstAt_19 : Dn cX0_firstAt 19 (.iaload) 1 20 := ⟨by decide +kernel, rfl⟩
theorem dX0_firstAt_20 : Dn cX0_firstAt 20 (.aaload) 1 21 := ⟨by decide +kernel, rfl⟩
theorem dX0_firstAt_21 : Dn cX0_firstAt 21 (.iload_n 1) 1 22 := ⟨by decide +kernel, rfl⟩
theorem dX0_firstAt_22 : Dn cX0_firstAt 22 (.iload_n 2) 1 23 := ⟨by decide +kernel, rfl⟩
theorem dX0_firstAt_23 : Dn cX0_firstAt 23 (.invokevirtual 102) 3 26 := ⟨by decide +kernel, rfl⟩
theorem dX0_firstAt_26 : Dn cX0_firstAt 26 (.iconst (-1)) 1 27 := ⟨by decide +kernel, rfl⟩
theorem dX0_firstAt_27 : Dj cX0_firstAt 27 (fun o => .if_icmp .eq o) (10) 3 30 37 := ⟨by decide +kernel, rfl, by decide⟩
theorem dX0_firstAt_30 : Dn cX0_firstAt 30 (.aload_n 0) 1 31 := ⟨by decide +kernel, rfl⟩
theorem dX0_firstAt_31 : Dn cX0_firstAt 31 (.getfield 23) 3 34 := ⟨by decide +kernel, rfl⟩
theorem dX0_firstAt_34 : Dn cX0_firstAt 34 (.iload_n 3) 1 35 := ⟨by decide +kernel, rfl⟩
theorem dX0_firstAt_35 : Dn cX0_firstAt 35 (.iaload) 1 36 := ⟨by decide +kernel, rfl⟩
theorem dX0_firstAt_36 : Dn cX0_firstAt 36 (.ireturn) 1 37 := ⟨by decide +kernel, rfl⟩
theorem dX0_firstAt_37 : Dn cX0_firstAt 37 (.iinc 3 1) 3 40 := ⟨by decide +kernel, rfl⟩
theorem dX0_firstAt_40 : Dj cX0_firstAt 40 .goto (-38) 3 43 2 := ⟨by decide +kernel, rfl, by decide⟩
theorem dX0_firstAt_43 : Dn cX0_firstAt 43 (.bipush (-6)) 2 45 := ⟨by decide +kernel, rfl⟩
theorem dX0_firstAt_45 : Dn cX0_firstAt 45 (.ireturn) 1 46 := ⟨by decide +kernel, rfl⟩
theorem dX0_edge_0 : Dn cX0_edge 0 (.aload_n 0) 1 1 := ⟨by decide +kernel, rfl⟩
theorem dX0_edge_1 : Dn cX0_edge 1 (.getfield 11) 3 4 := ⟨by decide +kernel, rfl⟩
theorem dX0_edge_4 : Dn cX0_edge 4 (.iconst 0) 1 5 := ⟨by decide +kernel, rfl⟩
theorem dX0_edge_5 : Dn cX0_edge 5 (.aaload) 1 6 := ⟨by decide +kernel, rfl⟩
theorem dX0_edge_6 : Dn cX0_edge 6 (.iload_n 1) 1 7 := ⟨by decide +kernel, rfl⟩
theorem dX0_edge_7 : Dn cX0_edge 7 (.invokevirtual 106) 3 10 := ⟨by decide +kernel, rfl⟩
theorem dX0_edge_10 : Dn cX0_edge 10 (.istore_n 2) 1 11 := ⟨by decide +kernel, rfl⟩
theorem dX0_edge_11 : Dn cX0_edge 11 (.iconst 1) 1 12 := ⟨by decide +kernel, rfl⟩
theorem dX0_edge_12 : Dn cX0_edge 12 (.istore_n 3) 1 13 := ⟨by decide +kernel, rfl⟩
theorem dX0_edge_13 : Dn cX0_edge 13 (.iload_n 3) 1 14 := ⟨by decide +kernel, rfl⟩
theorem dX0_edge_14 : Dn cX0_edge 14 (.aload_n 0) 1 15 := ⟨by decide +kernel, rfl⟩
theorem dX0_edge_15 : Dn cX0_edge 15 (.getfield 66) 3 18 := ⟨by decide +kernel, rfl⟩
theorem dX0_edge_18 : Dj cX0_edge 18 (fun o => .if_icmp .ge o) (47) 3 21 65 := ⟨by decide +kernel, rfl, by decide⟩
theorem dX0_edge_21 : Dn cX0_edge 21 (.aload_n 0) 1 22 := ⟨by decide +kernel, rfl⟩
theorem dX0_edge_22 : Dn cX0_edge 22 (.getfield 11) 3 25 := ⟨by decide +kernel, rfl⟩
theorem dX0_edge_25 : Dn cX0_edge 25 (.aload_n 0) 1 26 := ⟨by decide +kernel, rfl⟩
theorem dX0_edge_26 : Dn cX0_edge 26 (.getfield 23) 3 29 := ⟨by decide +kernel, rfl⟩
theorem dX0_edge_29 : Dn cX0_edge 29 (.iload_n 3) 1 30 := ⟨by decide +kernel, rfl⟩
theorem dX0_edge_30 : Dn cX0_edge 30 (.iaload) 1 31 := ⟨by decide +kernel, rfl⟩
theorem dX0_edge_31 : Dn cX0_edge 31 (.aaload) 1 32 := ⟨by decide +kernel, rfl⟩
theorem dX0_edge_32 : Dn cX0_edge 32 (.iload_n 1) 1 33 := ⟨by decide +kernel, rfl⟩
theorem dX0_edge_33 : Dn cX0_edge 33 (.invokevirtual 106) 3 36 := ⟨by decide +kernel, rfl⟩
theorem dX0_edge_36 : Dn cX0_edge 36 (.istore 4) 2 38 := ⟨by decide +kernel, rfl⟩
theorem dX0_edge_38 : Dn cX0_edge 38 (.iload_n 1) 1 39 := ⟨by decide +kernel, rfl⟩
theorem dX0_edge_39 : Dn cX0_edge 39 (.iconst 2) 1 40 := ⟨by decide +kernel, rfl⟩
theorem dX0_edge_40 : Dj cX0_edge 40 (fun o => .if_icmp .ge o) (12) 3 43 52 := ⟨by decide +kernel, rfl, by decide⟩
theorem dX0_edge_43 : Dn cX0_edge 43 (.iload_n 2) 1 44 := ⟨by decide +kernel, rfl⟩
theorem dX0_edge_44 : Dn cX0_edge 44 (.iload 4) 2 46 := ⟨by decide +kernel, rfl⟩
theorem dX0_edge_46 : Dn cX0_edge 46 (.invokestatic 110) 3 49 := ⟨by decide +kernel, rfl⟩
theorem dX0_edge_49 : Dj cX0_edge 49 .goto (9) 3 52 58 := ⟨by decide +kernel, rfl, by decide⟩
theorem dX0_edge_52 : Dn cX0_edge 52 (.iload_n 2) 1 53 := ⟨by decide +kernel, rfl⟩
theorem dX0_edge_53 : Dn cX0_edge 53 (.iload 4) 2 55 := ⟨by decide +kernel, rfl⟩
theorem dX0_edge_55 : Dn cX0_edge 55 (.invokestatic 115) 3 58 := ⟨by decide +kernel, rfl⟩
theorem dX0_edge_58 : Dn cX0_edge 58 (.istore_n 2) 1 59 := ⟨by decide +kernel, rfl⟩
theorem dX0_edge_59 : Dn cX0_edge 59 (.iinc 3 1) 3 62 := ⟨by decide +kernel, rfl⟩
theorem dX0_edge_62 : Dj cX0_edge 62 .goto (-49) 3 65 13 := ⟨by decide +kernel, rfl, by decide⟩
theorem dX0_edge_65 : Dn cX0_edge 65 (.iload_n 2) 1 66 := ⟨by decide +kernel, rfl⟩
theorem dX0_edge_66 : Dn cX0_edge 66 (.ireturn) 1 67 := ⟨by decide +kernel, rfl⟩
theorem dX0_countPlaces_0 : Dn cX0_countPlaces 0 (.iconst 0) 1 1 := ⟨by decide +kernel, rfl⟩
theorem dX0_countPlaces_1 : Dn cX0_countPlaces 1 (.istore_n 1) 1 2 := ⟨by decide +kernel, rfl⟩
theorem dX0_countPlaces_2 : Dn cX0_countPlaces 2 (.iconst 0) 1 3 := ⟨by decide +kernel, rfl⟩
theorem dX0_countPlaces_3 : Dn cX0_countPlaces 3 (.istore_n 2) 1 4 := ⟨by decide +kernel, rfl⟩
theorem dX0_countPlaces_4 : Dn cX0_countPlaces 4 (.iload_n 2) 1 5 := ⟨by decide +kernel, rfl⟩
theorem dX0_countPlaces_5 : Dn cX0_countPlaces 5 (.aload_n 0) 1 6 := ⟨by decide +kernel, rfl⟩
theorem dX0_countPlaces_6 : Dn cX0_countPlaces 6 (.getfield 66) 3 9 := ⟨by decide +kernel, rfl⟩
theorem dX0_countPlaces_9 : Dj cX0_countPlaces 9 (fun o => .if_icmp .ge o) (93) 3 12 102 := ⟨by decide +kernel, rfl, by decide⟩
theorem dX0_countPlaces_12 : Dn cX0_countPlaces 12 (.aload_n 0) 1 13 := ⟨by decide +kernel, rfl⟩
theorem dX0_countPlaces_13 : Dn cX0_countPlaces 13 (.getfield 11) 3 16 := ⟨by decide +kernel, rfl⟩
theorem dX0_countPlaces_16 : Dn cX0_countPlaces 16 (.aload_n 0) 1 17 := ⟨by decide +kernel, rfl⟩
theorem dX0_countPlaces_17 : Dn cX0_countPlaces 17 (.getfield 23) 3 20 := ⟨by decide +kernel, rfl⟩
theorem dX0_countPlaces_20 : Dn cX0_countPlaces 20 (.iload_n 2) 1 21 := ⟨by decide +kernel, rfl⟩
theorem dX0_countPlaces_21 : Dn cX0_countPlaces 21 (.iaload) 1 22 := ⟨by decide +kernel, rfl⟩
theorem dX0_countPlaces_22 : Dn cX0_countPlaces 22 (.aaload) 1 23 := ⟨by decide +kernel, rfl⟩
theorem dX0_countPlaces_23 : Dn cX0_countPlaces 23 (.astore_n 3) 1 24 := ⟨by decide +kernel, rfl⟩
theorem dX0_countPlaces_24 : Dn cX0_countPlaces 24 (.iconst 0) 1 25 := ⟨by decide +kernel, rfl⟩
theorem dX0_countPlaces_25 : Dn cX0_countPlaces 25 (.istore 4) 2 27 := ⟨by decide +kernel, rfl⟩
theorem dX0_countPlaces_27 : Dn cX0_countPlaces 27 (.iload 4) 2 29 := ⟨by decide +kernel, rfl⟩
theorem dX0_countPlaces_29 : Dn cX0_countPlaces 29 (.aload_n 3) 1 30 := ⟨by decide +kernel, rfl⟩
theorem dX0_countPlaces_30 : Dn cX0_countPlaces 30 (.getfield 37) 3 33 := ⟨by decide +kernel, rfl⟩
theorem dX0_countPlaces_33 : Dn cX0_countPlaces 33 (.getfield 118) 3 36 := ⟨by decide +kernel, rfl⟩
theorem dX0_countPlaces_36 : Dj cX0_countPlaces 36 (fun o => .if_icmp .ge o) (60) 3 39 96 := ⟨by decide +kernel, rfl, by decide⟩
theorem dX0_countPlaces_39 : Dn cX0_countPlaces 39 (.iconst 0) 1 40 := ⟨by decide +kernel, rfl⟩
theorem dX0_countPlaces_40 : Dn cX0_countPlaces 40 (.istore 5) 2 42 := ⟨by decide +kernel, rfl⟩
theorem dX0_countPlaces_42 : Dn cX0_countPlaces 42 (.iload 5) 2 44 := ⟨by decide +kernel, rfl⟩
theorem dX0_countPlaces_44 : Dn cX0_countPlaces 44 (.aload_n 3) 1 45 := ⟨by decide +kernel, rfl⟩
theorem dX0_countPlaces_45 : Dn cX0_countPlaces 45 (.getfield 37) 3 48 := ⟨by decide +kernel, rfl⟩
theorem dX0_countPlaces_48 : Dn cX0_countPlaces 48 (.getfield 121) 3 51 := ⟨by decide +kernel, rfl⟩
theorem dX0_countPlaces_51 : Dj cX0_countPlaces 51 (fun o => .if_icmp .ge o) (39) 3 54 90 := ⟨by decide +kernel, rfl, by decide⟩
theorem dX0_countPlaces_54 : Dn cX0_countPlaces 54 (.aload_n 0) 1 55 := ⟨by decide +kernel, rfl⟩
theorem dX0_countPlaces_55 : Dn cX0_countPlaces 55 (.aload_n 3) 1 56 := ⟨by decide +kernel, rfl⟩
theorem dX0_countPlaces_56 : Dn cX0_countPlaces 56 (.getfield 80) 3 59 := ⟨by decide +kernel, rfl⟩
theorem dX0_countPlaces_59 : Dn cX0_countPlaces 59 (.iload 5) 2 61 := ⟨by decide +kernel, rfl⟩
theorem dX0_countPlaces_61 : Dn cX0_countPlaces 61 (.iadd) 1 62 := ⟨by decide +kernel, rfl⟩
theorem dX0_countPlaces_62 : Dn cX0_countPlaces 62 (.aload_n 3) 1 63 := ⟨by decide +kernel, rfl⟩
theorem dX0_countPlaces_63 : Dn cX0_countPlaces 63 (.getfield 84) 3 66 := ⟨by decide +kernel, rfl⟩
theorem dX0_countPlaces_66 : Dn cX0_countPlaces 66 (.iload 4) 2 68 := ⟨by decide +kernel, rfl⟩
theorem dX0_countPlaces_68 : Dn cX0_countPlaces 68 (.iadd) 1 69 := ⟨by decide +kernel, rfl⟩
theorem dX0_countPlaces_69 : Dn cX0_countPlaces 69 (.invokevirtual 124) 3 72 := ⟨by decide +kernel, rfl⟩
theorem dX0_countPlaces_72 : Dn cX0_countPlaces 72 (.aload_n 0) 1 73 := ⟨by decide +kernel, rfl⟩
theorem dX0_countPlaces_73 : Dn cX0_countPlaces 73 (.getfield 23) 3 76 := ⟨by decide +kernel, rfl⟩
theorem dX0_countPlaces_76 : Dn cX0_countPlaces 76 (.iload_n 2) 1 77 := ⟨by decide +kernel, rfl⟩
theorem dX0_countPlaces_77 : Dn cX0_countPlaces 77 (.iaload) 1 78 := ⟨by decide +kernel, rfl⟩
theorem dX0_countPlaces_78 : Dj cX0_countPlaces 78 (fun o => .if_icmp .ne o) (6) 3 81 84 := ⟨by decide +kernel, rfl, by decide⟩
theorem dX0_countPlaces_81 : Dn cX0_countPlaces 81 (.iinc 1 1) 3 84 := ⟨by decide +kernel, rfl⟩
theorem dX0_countPlaces_84 : Dn cX0_countPlaces 84 (.iinc 5 1) 3 87 := ⟨by decide +kernel, rfl⟩
theorem dX0_countPlaces_87 : Dj cX0_countPlaces 87 .goto (-45) 3 90 42 := ⟨by decide +kernel, rfl, by decide⟩
theorem dX0_countPlaces_90 : Dn cX0_countPlaces 90 (.iinc 4 1) 3 93 := ⟨by decide +kernel, rfl⟩
theorem dX0_countPlaces_93 : Dj cX0_countPlaces 93 .goto (-66) 3 96 27 := ⟨by decide +kernel, rfl, by decide⟩
theorem dX0_countPlaces_96 : Dn cX0_countPlaces 96 (.iinc 2 1) 3 99 := ⟨by decide +kernel, rfl⟩
theorem dX0_countPlaces_99 : Dj cX0_countPlaces 99 .goto (-95) 3 102 4 := ⟨by decide +kernel, rfl, by decide⟩
theorem dX0_countPlaces_102 : Dn cX0_countPlaces 102 (.iload_n 1) 1 103 := ⟨by decide +kernel, rfl⟩
theorem dX0_countPlaces_103 : Dn cX0_countPlaces 103 (.ireturn) 1 104 := ⟨by decide +kernel, rfl⟩
theorem dX1_init_0 : Dn cX1_init 0 (.aload_n 0) 1 1 := ⟨by decide +kernel, rfl⟩
theorem dX1_init_1 : Dn cX1_init 1 (.invokespecial 3) 3 4 := ⟨by decide +kernel, rfl⟩
theorem dX1_init_4 : Dn cX1_init 4 (.aload_n 0) 1 5 := ⟨by decide +kernel, rfl⟩
theorem dX1_init_5 : Dn cX1_init 5 (.sipush 400) 3 8 := ⟨by decide +kernel, rfl⟩
theorem dX1_init_8 : Dn cX1_init 8 (.newarray .int) 2 10 := ⟨by decide +kernel, rfl⟩
theorem dX1_init_10 : Dn cX1_init 10 (.putfield 9) 3 13 := ⟨by decide +kernel, rfl⟩
theorem dX1_init_13 : Dn cX1_init 13 (.aload_n 0) 1 14 := ⟨by decide +kernel, rfl⟩
theorem dX1_init_14 : Dn cX1_init 14 (.sipush 400) 3 17 := ⟨by decide +kernel, rfl⟩
theorem dX1_init_17 : Dn cX1_init 17 (.newarray .int) 2 19 := ⟨by decide +kernel, rfl⟩
theorem dX1_init_19 : Dn cX1_init 19 (.putfield 15) 3 22 := ⟨by decide +kernel, rfl⟩
theorem dX1_init_22 : Dn cX1_init 22 (.return_) 1 23 := ⟨by decide +kernel, rfl⟩
theorem dX1_resize_0 : Dn cX1_resize 0 (.aload_n 0) 1 1 := ⟨by decide +kernel, rfl⟩
theorem dX1_resize_1 : Dn cX1_resize 1 (.iload_n 1) 1 2 := ⟨by decide +kernel, rfl⟩
theorem dX1_resize_2 : Dn cX1_resize 2 (.bipush 20) 2 4 := ⟨by decide +kernel, rfl⟩
theorem dX1_resize_4 : Dn cX1_resize 4 (.invokestatic 18) 3 7 := ⟨by decide +kernel, rfl⟩
theorem dX1_resize_7 : Dn cX1_resize 7 (.putfield 24) 3 10 := ⟨by decide +kernel, rfl⟩
theorem dX1_resize_10 : Dn cX1_resize 10 (.aload_n 0) 1 11 := ⟨by decide +kernel, rfl⟩
theorem dX1_resize_11 : Dn cX1_resize 11 (.iload_n 2) 1 12 := ⟨by decide +kernel, rfl⟩
theorem dX1_resize_12 : Dn cX1_resize 12 (.bipush 20) 2 14 := ⟨by decide +kernel, rfl⟩
theorem dX1_resize_14 : Dn cX1_resize 14 (.invokestatic 18) 3 17 := ⟨by decide +kernel, rfl⟩
theorem dX1_resize_17 : Dn cX1_resize 17 (.putfield 28) 3 20 := ⟨by decide +kernel, rfl⟩
theorem dX1_resize_20 : Dn cX1_resize 20 (.aload_n 0) 1 21 := ⟨by decide +kernel, rfl⟩
theorem dX1_resize_21 : Dn cX1_resize 21 (.iconst 1) 1 22 := ⟨by decide +kernel, rfl⟩
theorem dX1_resize_22 : Dn cX1_resize 22 (.putfield 31) 3 25 := ⟨by decide +kernel, rfl⟩
theorem dX1_resize_25 : Dn cX1_resize 25 (.return_) 1 26 := ⟨by decide +kernel, rfl⟩
theorem dX1_has_0 : Dn cX1_has 0 (.iload_n 1) 1 1 := ⟨by decide +kernel, rfl⟩
theorem dX1_has_1 : Dj cX1_has 1 (fun o => .ifCond .lt o) (27) 3 4 28 := ⟨by decide +kernel, rfl, by decide⟩
theorem dX1_has_4 : Dn cX1_has 4 (.iload_n 1) 1 5 := ⟨by decide +kernel, rfl⟩
theorem dX1_has_5 : Dn cX1_has 5 (.aload_n 0) 1 6 := ⟨by decide +kernel, rfl⟩
theorem dX1_has_6 : Dn cX1_has 6 (.getfield 24) 3 9 := ⟨by decide +kernel, rfl⟩
theorem dX1_has_9 : Dj cX1_has 9 (fun o => .if_icmp .ge o) (19) 3 12 28 := ⟨by decide +kernel, rfl, by decide⟩
theorem dX1_has_12 : Dn cX1_has 12 (.iload_n 2) 1 13 := ⟨by decide +kernel, rfl⟩
theorem dX1_has_13 : Dj cX1_has 13 (fun o => .ifCond .lt o) (15) 3 16 28 := ⟨by decide +kernel, rfl, by decide⟩
theorem dX1_has_16 : Dn cX1_has 16 (.iload_n 2) 1 17 := ⟨by decide +kernel, rfl⟩
theorem dX1_has_17 : Dn cX1_has 17 (.aload_n 0) 1 18 := ⟨by decide +kernel, rfl⟩
theorem dX1_has_18 : Dn cX1_has 18 (.getfield 28) 3 21 := ⟨by decide +kernel, rfl⟩
theorem dX1_has_21 : Dj cX1_has 21 (fun o => .if_icmp .ge o) (7) 3 24 28 := ⟨by decide +kernel, rfl, by decide⟩
theorem dX1_has_24 : Dn cX1_has 24 (.iconst 1) 1 25 := ⟨by decide +kernel, rfl⟩
theorem dX1_has_25 : Dj cX1_has 25 .goto (4) 3 28 29 := ⟨by decide +kernel, rfl, by decide⟩
theorem dX1_has_28 : Dn cX1_has 28 (.iconst 0) 1 29 := ⟨by decide +kernel, rfl⟩
theorem dX1_has_29 : Dn cX1_has 29 (.ireturn) 1 30 := ⟨by decide +kernel, rfl⟩
theorem dX1_get_0 : Dn cX1_get 0 (.aload_n 0) 1 1 := ⟨by decide +kernel, rfl⟩
theorem dX1_get_1 : Dn cX1_get 1 (.iload_n 1) 1 2 := ⟨by decide +kernel, rfl⟩
theorem dX1_get_2 : Dn cX1_get 2 (.iload_n 2) 1 3 := ⟨by decide +kernel, rfl⟩
theorem dX1_get_3 : Dn cX1_get 3 (.invokevirtual 35) 3 6 := ⟨by decide +kernel, rfl⟩
theorem dX1_get_6 : Dj cX1_get 6 (fun o => .ifCond .eq o) (17) 3 9 23 := ⟨by decide +kernel, rfl, by decide⟩
theorem dX1_get_9 : Dn cX1_get 9 (.aload_n 0) 1 10 := ⟨by decide +kernel, rfl⟩
theorem dX1_get_10 : Dn cX1_get 10 (.getfield 9) 3 13 := ⟨by decide +kernel, rfl⟩
theorem dX1_get_13 : Dn cX1_get 13 (.iload_n 2) 1 14 := ⟨by decide +kernel, rfl⟩
theorem dX1_get_14 : Dn cX1_get 14 (.bipush 20) 2 16 := ⟨by decide +kernel, rfl⟩
theorem dX1_get_16 : Dn cX1_get 16 (.imul) 1 17 := ⟨by decide +kernel, rfl⟩
theorem dX1_get_17 : Dn cX1_get 17 (.iload_n 1) 1 18 := ⟨by decide +kernel, rfl⟩
theorem dX1_get_18 : Dn cX1_get 18 (.iadd) 1 19 := ⟨by decide +kernel, rfl⟩
theorem dX1_get_19 : Dn cX1_get 19 (.iaload) 1 20 := ⟨by decide +kernel, rfl⟩
theorem dX1_get_20 : Dj cX1_get 20 .goto (4) 3 23 24 := ⟨by decide +kernel, rfl, by decide⟩
theorem dX1_get_23 : Dn cX1_get 23 (.iconst (-1)) 1 24 := ⟨by decide +kernel, rfl⟩
theorem dX1_get_24 : Dn cX1_get 24 (.ireturn) 1 25 := ⟨by decide +kernel, rfl⟩
theorem dX1_put_0 : Dn cX1_put 0 (.aload_n 0) 1 1 := ⟨by decide +kernel, rfl⟩
theorem dX1_put_1 : Dn cX1_put 1 (.iload_n 1) 1 2 := ⟨by decide +kernel, rfl⟩
theorem dX1_put_2 : Dn cX1_put 2 (.iload_n 2) 1 3 := ⟨by decide +kernel, rfl⟩
theorem dX1_put_3 : Dn cX1_put 3 (.invokevirtual 35) 3 6 := ⟨by decide +kernel, rfl⟩
theorem dX1_put_6 : Dj cX1_put 6 (fun o => .ifCond .eq o) (20) 3 9 26 := ⟨by decide +kernel, rfl, by decide⟩
theorem dX1_put_9 : Dn cX1_put 9 (.aload_n 0) 1 10 := ⟨by decide +kernel, rfl⟩
theorem dX1_put_10 : Dn cX1_put 10 (.getfield 9) 3 13 := ⟨by decide +kernel, rfl⟩
theorem dX1_put_13 : Dn cX1_put 13 (.iload_n 2) 1 14 := ⟨by decide +kernel, rfl⟩
theorem dX1_put_14 : Dn cX1_put 14 (.bipush 20) 2 16 := ⟨by decide +kernel, rfl⟩
theorem dX1_put_16 : Dn cX1_put 16 (.imul) 1 17 := ⟨by decide +kernel, rfl⟩
theorem dX1_put_17 : Dn cX1_put 17 (.iload_n 1) 1 18 := ⟨by decide +kernel, rfl⟩
theorem dX1_put_18 : Dn cX1_put 18 (.iadd) 1 19 := ⟨by decide +kernel, rfl⟩
theorem dX1_put_19 : Dn cX1_put 19 (.iload_n 3) 1 20 := ⟨by decide +kernel, rfl⟩
theorem dX1_put_20 : Dn cX1_put 20 (.iastore) 1 21 := ⟨by decide +kernel, rfl⟩
theorem dX1_put_21 : Dn cX1_put 21 (.aload_n 0) 1 22 := ⟨by decide +kernel, rfl⟩
theorem dX1_put_22 : Dn cX1_put 22 (.iconst 1) 1 23 := ⟨by decide +kernel, rfl⟩
theorem dX1_put_23 : Dn cX1_put 23 (.putfield 31) 3 26 := ⟨by decide +kernel, rfl⟩
theorem dX1_put_26 : Dn cX1_put 26 (.return_) 1 27 := ⟨by decide +kernel, rfl⟩
theorem dX1_scoreOf_0 : Dn cX1_scoreOf 0 (.iload_n 1) 1 1 := ⟨by decide +kernel, rfl⟩
theorem dX1_scoreOf_1 : Dn cX1_scoreOf 1 (.iconst 3) 1 2 := ⟨by decide +kernel, rfl⟩
theorem dX1_scoreOf_2 : Dn cX1_scoreOf 2 (.aload_n 0) 1 3 := ⟨by decide +kernel, rfl⟩
theorem dX1_scoreOf_3 : Dn cX1_scoreOf 3 (.getfield 24) 3 6 := ⟨by decide +kernel, rfl⟩
theorem dX1_scoreOf_6 : Dn cX1_scoreOf 6 (.iconst 1) 1 7 := ⟨by decide +kernel, rfl⟩
theorem dX1_scoreOf_7 : Dn cX1_scoreOf 7 (.isub) 1 8 := ⟨by decide +kernel, rfl⟩
theorem dX1_scoreOf_8 : Dn cX1_scoreOf 8 (.iconst 3) 1 9 := ⟨by decide +kernel, rfl⟩
theorem dX1_scoreOf_9 : Dn cX1_scoreOf 9 (.isub) 1 10 := ⟨by decide +kernel, rfl⟩
theorem dX1_scoreOf_10 : Dn cX1_scoreOf 10 (.invokestatic 39) 3 13 := ⟨by decide +kernel, rfl⟩
theorem dX1_scoreOf_13 : Dj cX1_scoreOf 13 (fun o => .ifCond .eq o) (19) 3 16 32 := ⟨by decide +kernel, rfl, by decide⟩
theorem dX1_scoreOf_16 : Dn cX1_scoreOf 16 (.iload_n 2) 1 17 := ⟨by decide +kernel, rfl⟩
theorem dX1_scoreOf_17 : Dn cX1_scoreOf 17 (.iconst 3) 1 18 := ⟨by decide +kernel, rfl⟩
theorem dX1_scoreOf_18 : Dn cX1_scoreOf 18 (.aload_n 0) 1 19 := ⟨by decide +kernel, rfl⟩
theorem dX1_scoreOf_19 : Dn cX1_scoreOf 19 (.getfield 28) 3 22 := ⟨by decide +kernel, rfl⟩
theorem dX1_scoreOf_22 : Dn cX1_scoreOf 22 (.iconst 1) 1 23 := ⟨by decide +kernel, rfl⟩
theorem dX1_scoreOf_23 : Dn cX1_scoreOf 23 (.isub) 1 24 := ⟨by decide +kernel, rfl⟩
theorem dX1_scoreOf_24 : Dn cX1_scoreOf 24 (.iconst 3) 1 25 := ⟨by decide +kernel, rfl⟩
theorem dX1_scoreOf_25 : Dn cX1_scoreOf 25 (.isub) 1 26 := ⟨by decide +kernel, rfl⟩
theorem dX1_scoreOf_26 : Dn cX1_scoreOf 26 (.invokestatic 39) 3 29 := ⟨by decide +kernel, rfl⟩
theorem dX1_scoreOf_29 : Dj cX1_scoreOf 29 (fun o => .ifCond .ne o) (5) 3 32 34 := ⟨by decide +kernel, rfl, by decide⟩
theorem dX1_scoreOf_32 : Dn cX1_scoreOf 32 (.iconst 0) 1 33 := ⟨by decide +kernel, rfl⟩
theorem dX1_scoreOf_33 : Dn cX1_scoreOf 33 (.ireturn) 1 34 := ⟨by decide +kernel, rfl⟩
theorem dX1_scoreOf_34 : Dn cX1_scoreOf 34 (.ldc 43) 2 36 := ⟨by decide +kernel, rfl⟩
theorem dX1_scoreOf_36 : Dn cX1_scoreOf 36 (.istore_n 3) 1 37 := ⟨by decide +kernel, rfl⟩
theorem dX1_scoreOf_37 : Dn cX1_scoreOf 37 (.iconst 0) 1 38 := ⟨by decide +kernel, rfl⟩
theorem dX1_scoreOf_38 : Dn cX1_scoreOf 38 (.istore 4) 2 40 := ⟨by decide +kernel, rfl⟩
theorem dX1_scoreOf_40 : Dn cX1_scoreOf 40 (.iload 4) 2 42 := ⟨by decide +kernel, rfl⟩
theorem dX1_scoreOf_42 : Dn cX1_scoreOf 42 (.getstatic 44) 3 45 := ⟨by decide +kernel, rfl⟩
theorem dX1_scoreOf_45 : Dn cX1_scoreOf 45 (.arraylength) 1 46 := ⟨by decide +kernel, rfl⟩
theorem dX1_scoreOf_46 : Dj cX1_scoreOf 46 (fun o => .if_icmp .ge o) (53) 3 49 99 := ⟨by decide +kernel, rfl, by decide⟩
theorem dX1_scoreOf_49 : Dn cX1_scoreOf 49 (.iload 4) 2 51 := ⟨by decide +kernel, rfl⟩
theorem dX1_scoreOf_51 : Dn cX1_scoreOf 51 (.getstatic 47) 3 54 := ⟨by decide +kernel, rfl⟩
theorem dX1_scoreOf_54 : Dn cX1_scoreOf 54 (.arraylength) 1 55 := ⟨by decide +kernel, rfl⟩
theorem dX1_scoreOf_55 : Dj cX1_scoreOf 55 (fun o => .if_icmp .ge o) (44) 3 58 99 := ⟨by decide +kernel, rfl, by decide⟩
theorem dX1_scoreOf_58 : Dn cX1_scoreOf 58 (.aload_n 0) 1 59 := ⟨by decide +kernel, rfl⟩
theorem dX1_scoreOf_59 : Dn cX1_scoreOf 59 (.iload_n 1) 1 60 := ⟨by decide +kernel, rfl⟩
theorem dX1_scoreOf_60 : Dn cX1_scoreOf 60 (.iload_n 2) 1 61 := ⟨by decide +kernel, rfl⟩
theorem dX1_scoreOf_61 : Dn cX1_scoreOf 61 (.getstatic 44) 3 64 := ⟨by decide +kernel, rfl⟩
theorem dX1_scoreOf_64 : Dn cX1_scoreOf 64 (.iload 4) 2 66 := ⟨by decide +kernel, rfl⟩
theorem dX1_scoreOf_66 : Dn cX1_scoreOf 66 (.iaload) 1 67 := ⟨by decide +kernel, rfl⟩
theorem dX1_scoreOf_67 : Dn cX1_scoreOf 67 (.getstatic 47) 3 70 := ⟨by decide +kernel, rfl⟩
theorem dX1_scoreOf_70 : Dn cX1_scoreOf 70 (.iload 4) 2 72 := ⟨by decide +kernel, rfl⟩
theorem dX1_scoreOf_72 : Dn cX1_scoreOf 72 (.iaload) 1 73 := ⟨by decide +kernel, rfl⟩
theorem dX1_scoreOf_73 : Dn cX1_scoreOf 73 (.invokevirtual 50) 3 76 := ⟨by decide +kernel, rfl⟩
theorem dX1_scoreOf_76 : Dn cX1_scoreOf 76 (.istore 5) 2 78 := ⟨by decide +kernel, rfl⟩
theorem dX1_scoreOf_78 : Dn cX1_scoreOf 78 (.iload 5) 2 80 := ⟨by decide +kernel, rfl⟩
theorem dX1_scoreOf_80 : Dn cX1_scoreOf 80 (.iconst (-1)) 1 81 := ⟨by decide +kernel, rfl⟩
theorem dX1_scoreOf_81 : Dj cX1_scoreOf 81 (fun o => .if_icmp .ne o) (5) 3 84 86 := ⟨by decide +kernel, rfl, by decide⟩
theorem dX1_scoreOf_84 : Dn cX1_scoreOf 84 (.iconst 0) 1 85 := ⟨by decide +kernel, rfl⟩
theorem dX1_scoreOf_85 : Dn cX1_scoreOf 85 (.ireturn) 1 86 := ⟨by decide +kernel, rfl⟩
theorem dX1_scoreOf_86 : Dn cX1_scoreOf 86 (.iload_n 3) 1 87 := ⟨by decide +kernel, rfl⟩
theorem dX1_scoreOf_87 : Dn cX1_scoreOf 87 (.iload 5) 2 89 := ⟨by decide +kernel, rfl⟩
theorem dX1_scoreOf_89 : Dn cX1_scoreOf 89 (.invokestatic 18) 3 92 := ⟨by decide +kernel, rfl⟩
theorem dX1_scoreOf_92 : Dn cX1_scoreOf 92 (.istore_n 3) 1 93 := ⟨by decide +kernel, rfl⟩
theorem dX1_scoreOf_93 : Dn cX1_scoreOf 93 (.iinc 4 1) 3 96 := ⟨by decide +kernel, rfl⟩
theorem dX1_scoreOf_96 : Dj cX1_scoreOf 96 .goto (-56) 3 99 40 := ⟨by decide +kernel, rfl, by decide⟩
theorem dX1_scoreOf_99 : Dn cX1_scoreOf 99 (.iload_n 3) 1 100 := ⟨by decide +kernel, rfl⟩
theorem dX1_scoreOf_100 : Dn cX1_scoreOf 100 (.ireturn) 1 101 := ⟨by decide +kernel, rfl⟩
theorem dX1_changeAbout_0 : Dn cX1_changeAbout 0 (.iconst 0) 1 1 := ⟨by decide +kernel, rfl⟩
theorem dX1_changeAbout_1 : Dn cX1_changeAbout 1 (.istore 5) 2 3 := ⟨by decide +kernel, rfl⟩
theorem dX1_changeAbout_3 : Dn cX1_changeAbout 3 (.iload_n 2) 1 4 := ⟨by decide +kernel, rfl⟩
theorem dX1_changeAbout_4 : Dn cX1_changeAbout 4 (.iconst 1) 1 5 := ⟨by decide +kernel, rfl⟩
theorem dX1_changeAbout_5 : Dn cX1_changeAbout 5 (.isub) 1 6 := ⟨by decide +kernel, rfl⟩
theorem dX1_changeAbout_6 : Dn cX1_changeAbout 6 (.istore 6) 2 8 := ⟨by decide +kernel, rfl⟩
theorem dX1_changeAbout_8 : Dn cX1_changeAbout 8 (.iload 6) 2 10 := ⟨by decide +kernel, rfl⟩
theorem dX1_changeAbout_10 : Dn cX1_changeAbout 10 (.iload_n 2) 1 11 := ⟨by decide +kernel, rfl⟩
theorem dX1_changeAbout_11 : Dn cX1_changeAbout 11 (.iconst 1) 1 12 := ⟨by decide +kernel, rfl⟩
theorem dX1_changeAbout_12 : Dn cX1_changeAbout 12 (.iadd) 1 13 := ⟨by decide +kernel, rfl⟩
theorem dX1_changeAbout_13 : Dj cX1_changeAbout 13 (fun o => .if_icmp .gt o) (83) 3 16 96 := ⟨by decide +kernel, rfl, by decide⟩
theorem dX1_changeAbout_16 : Dn cX1_changeAbout 16 (.iload_n 1) 1 17 := ⟨by decide +kernel, rfl⟩
theorem dX1_changeAbout_17 : Dn cX1_changeAbout 17 (.iconst 1) 1 18 := ⟨by decide +kernel, rfl⟩
theorem dX1_changeAbout_18 : Dn cX1_changeAbout 18 (.isub) 1 19 := ⟨by decide +kernel, rfl⟩
theorem dX1_changeAbout_19 : Dn cX1_changeAbout 19 (.istore 7) 2 21 := ⟨by decide +kernel, rfl⟩
theorem dX1_changeAbout_21 : Dn cX1_changeAbout 21 (.iload 7) 2 23 := ⟨by decide +kernel, rfl⟩
theorem dX1_changeAbout_23 : Dn cX1_changeAbout 23 (.iload_n 1) 1 24 := ⟨by decide +kernel, rfl⟩
theorem dX1_changeAbout_24 : Dn cX1_changeAbout 24 (.iconst 1) 1 25 := ⟨by decide +kernel, rfl⟩
theorem dX1_changeAbout_25 : Dn cX1_changeAbout 25 (.iadd) 1 26 := ⟨by decide +kernel, rfl⟩
theorem dX1_changeAbout_26 : Dj cX1_changeAbout 26 (fun o => .if_icmp .gt o) (64) 3 29 90 := ⟨by decide +kernel, rfl, by decide⟩
theorem dX1_changeAbout_29 : Dn cX1_changeAbout 29 (.aload_n 0) 1 30 := ⟨by decide +kernel, rfl⟩
theorem dX1_changeAbout_30 : Dn cX1_changeAbout 30 (.iload 7) 2 32 := ⟨by decide +kernel, rfl⟩
theorem dX1_changeAbout_32 : Dn cX1_changeAbout 32 (.iload 6) 2 34 := ⟨by decide +kernel, rfl⟩
theorem dX1_changeAbout_34 : Dn cX1_changeAbout 34 (.invokevirtual 54) 3 37 := ⟨by decide +kernel, rfl⟩
theorem dX1_changeAbout_37 : Dn cX1_changeAbout 37 (.istore 8) 2 39 := ⟨by decide +kernel, rfl⟩
theorem dX1_changeAbout_39 : Dn cX1_changeAbout 39 (.aload_n 0) 1 40 := ⟨by decide +kernel, rfl⟩
theorem dX1_changeAbout_40 : Dn cX1_changeAbout 40 (.iload 7) 2 42 := ⟨by decide +kernel, rfl⟩
theorem dX1_changeAbout_42 : Dn cX1_changeAbout 42 (.iload_n 3) 1 43 := ⟨by decide +kernel, rfl⟩
theorem dX1_changeAbout_43 : Dn cX1_changeAbout 43 (.iadd) 1 44 := ⟨by decide +kernel, rfl⟩
theorem dX1_changeAbout_44 : Dn cX1_changeAbout 44 (.iload 6) 2 46 := ⟨by decide +kernel, rfl⟩
theorem dX1_changeAbout_46 : Dn cX1_changeAbout 46 (.iload 4) 2 48 := ⟨by decide +kernel, rfl⟩
theorem dX1_changeAbout_48 : Dn cX1_changeAbout 48 (.iadd) 1 49 := ⟨by decide +kernel, rfl⟩
theorem dX1_changeAbout_49 : Dn cX1_changeAbout 49 (.invokevirtual 54) 3 52 := ⟨by decide +kernel, rfl⟩
theorem dX1_changeAbout_52 : Dn cX1_changeAbout 52 (.istore 9) 2 54 := ⟨by decide +kernel, rfl⟩
theorem dX1_changeAbout_54 : Dn cX1_changeAbout 54 (.iload 8) 2 56 := ⟨by decide +kernel, rfl⟩
theorem dX1_changeAbout_56 : Dn cX1_changeAbout 56 (.iconst (-1)) 1 57 := ⟨by decide +kernel, rfl⟩
theorem dX1_changeAbout_57 : Dj cX1_changeAbout 57 (fun o => .if_icmp .eq o) (9) 3 60 66 := ⟨by decide +kernel, rfl, by decide⟩
theorem dX1_changeAbout_60 : Dn cX1_changeAbout 60 (.iload 9) 2 62 := ⟨by decide +kernel, rfl⟩
theorem dX1_changeAbout_62 : Dn cX1_changeAbout 62 (.iconst (-1)) 1 63 := ⟨by decide +kernel, rfl⟩
theorem dX1_changeAbout_63 : Dj cX1_changeAbout 63 (fun o => .if_icmp .ne o) (5) 3 66 68 := ⟨by decide +kernel, rfl, by decide⟩
theorem dX1_changeAbout_66 : Dn cX1_changeAbout 66 (.iconst (-1)) 1 67 := ⟨by decide +kernel, rfl⟩
theorem dX1_changeAbout_67 : Dn cX1_changeAbout 67 (.ireturn) 1 68 := ⟨by decide +kernel, rfl⟩
theorem dX1_changeAbout_68 : Dn cX1_changeAbout 68 (.iload 5) 2 70 := ⟨by decide +kernel, rfl⟩
theorem dX1_changeAbout_70 : Dn cX1_changeAbout 70 (.iload 8) 2 72 := ⟨by decide +kernel, rfl⟩
theorem dX1_changeAbout_72 : Dn cX1_changeAbout 72 (.iload 9) 2 74 := ⟨by decide +kernel, rfl⟩
theorem dX1_changeAbout_74 : Dn cX1_changeAbout 74 (.isub) 1 75 := ⟨by decide +kernel, rfl⟩
theorem dX1_changeAbout_75 : Dn cX1_changeAbout 75 (.iload 8) 2 77 := ⟨by decide +kernel, rfl⟩
theorem dX1_changeAbout_77 : Dn cX1_changeAbout 77 (.iload 9) 2 79 := ⟨by decide +kernel, rfl⟩
theorem dX1_changeAbout_79 : Dn cX1_changeAbout 79 (.isub) 1 80 := ⟨by decide +kernel, rfl⟩
theorem dX1_changeAbout_80 : Dn cX1_changeAbout 80 (.imul) 1 81 := ⟨by decide +kernel, rfl⟩
theorem dX1_changeAbout_81 : Dn cX1_changeAbout 81 (.iadd) 1 82 := ⟨by decide +kernel, rfl⟩
theorem dX1_changeAbout_82 : Dn cX1_changeAbout 82 (.istore 5) 2 84 := ⟨by decide +kernel, rfl⟩
theorem dX1_changeAbout_84 : Dn cX1_changeAbout 84 (.iinc 7 1) 3 87 := ⟨by decide +kernel, rfl⟩
theorem dX1_changeAbout_87 : Dj cX1_changeAbout 87 .goto (-66) 3 90 21 := ⟨by decide +kernel, rfl, by decide⟩
theorem dX1_changeAbout_90 : Dn cX1_changeAbout 90 (.iinc 6 1) 3 93 := ⟨by decide +kernel, rfl⟩
theorem dX1_changeAbout_93 : Dj cX1_changeAbout 93 .goto (-85) 3 96 8 := ⟨by decide +kernel, rfl, by decide⟩
theorem dX1_changeAbout_96 : Dn cX1_changeAbout 96 (.iload 5) 2 98 := ⟨by decide +kernel, rfl⟩
theorem dX1_changeAbout_98 : Dn cX1_changeAbout 98 (.ireturn) 1 99 := ⟨by decide +kernel, rfl⟩
theorem dX1_scoreAll_0 : Dn cX1_scoreAll 0 (.aload_n 0) 1 1 := ⟨by decide +kernel, rfl⟩
theorem dX1_scoreAll_1 : Dn cX1_scoreAll 1 (.getfield 31) 3 4 := ⟨by decide +kernel, rfl⟩
theorem dX1_scoreAll_4 : Dj cX1_scoreAll 4 (fun o => .ifCond .ne o) (4) 3 7 8 := ⟨by decide +kernel, rfl, by decide⟩
theorem dX1_scoreAll_7 : Dn cX1_scoreAll 7 (.return_) 1 8 := ⟨by decide +kernel, rfl⟩
theorem dX1_scoreAll_8 : Dn cX1_scoreAll 8 (.iconst 0) 1 9 := ⟨by decide +kernel, rfl⟩
theorem dX1_scoreAll_9 : Dn cX1_scoreAll 9 (.istore_n 1) 1 10 := ⟨by decide +kernel, rfl⟩
theorem dX1_scoreAll_10 : Dn cX1_scoreAll 10 (.iload_n 1) 1 11 := ⟨by decide +kernel, rfl⟩
theorem dX1_scoreAll_11 : Dn cX1_scoreAll 11 (.aload_n 0) 1 12 := ⟨by decide +kernel, rfl⟩
theorem dX1_scoreAll_12 : Dn cX1_scoreAll 12 (.getfield 28) 3 15 := ⟨by decide +kernel, rfl⟩
theorem dX1_scoreAll_15 : Dj cX1_scoreAll 15 (fun o => .if_icmp .ge o) (42) 3 18 57 := ⟨by decide +kernel, rfl, by decide⟩
theorem dX1_scoreAll_18 : Dn cX1_scoreAll 18 (.iconst 0) 1 19 := ⟨by decide +kernel, rfl⟩
theorem dX1_scoreAll_19 : Dn cX1_scoreAll 19 (.istore_n 2) 1 20 := ⟨by decide +kernel, rfl⟩
theorem dX1_scoreAll_20 : Dn cX1_scoreAll 20 (.iload_n 2) 1 21 := ⟨by decide +kernel, rfl⟩
theorem dX1_scoreAll_21 : Dn cX1_scoreAll 21 (.aload_n 0) 1 22 := ⟨by decide +kernel, rfl⟩
theorem dX1_scoreAll_22 : Dn cX1_scoreAll 22 (.getfield 24) 3 25 := ⟨by decide +kernel, rfl⟩
theorem dX1_scoreAll_25 : Dj cX1_scoreAll 25 (fun o => .if_icmp .ge o) (26) 3 28 51 := ⟨by decide +kernel, rfl, by decide⟩
theorem dX1_scoreAll_28 : Dn cX1_scoreAll 28 (.aload_n 0) 1 29 := ⟨by decide +kernel, rfl⟩
theorem dX1_scoreAll_29 : Dn cX1_scoreAll 29 (.getfield 15) 3 32 := ⟨by decide +kernel, rfl⟩
theorem dX1_scoreAll_32 : Dn cX1_scoreAll 32 (.iload_n 1) 1 33 := ⟨by decide +kernel, rfl⟩
theorem dX1_scoreAll_33 : Dn cX1_scoreAll 33 (.bipush 20) 2 35 := ⟨by decide +kernel, rfl⟩
theorem dX1_scoreAll_35 : Dn cX1_scoreAll 35 (.imul) 1 36 := ⟨by decide +kernel, rfl⟩
theorem dX1_scoreAll_36 : Dn cX1_scoreAll 36 (.iload_n 2) 1 37 := ⟨by decide +kernel, rfl⟩
theorem dX1_scoreAll_37 : Dn cX1_scoreAll 37 (.iadd) 1 38 := ⟨by decide +kernel, rfl⟩
theorem dX1_scoreAll_38 : Dn cX1_scoreAll 38 (.aload_n 0) 1 39 := ⟨by decide +kernel, rfl⟩
theorem dX1_scoreAll_39 : Dn cX1_scoreAll 39 (.iload_n 2) 1 40 := ⟨by decide +kernel, rfl⟩
theorem dX1_scoreAll_40 : Dn cX1_scoreAll 40 (.iload_n 1) 1 41 := ⟨by decide +kernel, rfl⟩
theorem dX1_scoreAll_41 : Dn cX1_scoreAll 41 (.invokevirtual 57) 3 44 := ⟨by decide +kernel, rfl⟩
theorem dX1_scoreAll_44 : Dn cX1_scoreAll 44 (.iastore) 1 45 := ⟨by decide +kernel, rfl⟩
theorem dX1_scoreAll_45 : Dn cX1_scoreAll 45 (.iinc 2 1) 3 48 := ⟨by decide +kernel, rfl⟩
theorem dX1_scoreAll_48 : Dj cX1_scoreAll 48 .goto (-28) 3 51 20 := ⟨by decide +kernel, rfl, by decide⟩
theorem dX1_scoreAll_51 : Dn cX1_scoreAll 51 (.iinc 1 1) 3 54 := ⟨by decide +kernel, rfl⟩
theorem dX1_scoreAll_54 : Dj cX1_scoreAll 54 .goto (-44) 3 57 10 := ⟨by decide +kernel, rfl, by decide⟩
theorem dX1_scoreAll_57 : Dn cX1_scoreAll 57 (.aload_n 0) 1 58 := ⟨by decide +kernel, rfl⟩
theorem dX1_scoreAll_58 : Dn cX1_scoreAll 58 (.iconst 0) 1 59 := ⟨by decide +kernel, rfl⟩
theorem dX1_scoreAll_59 : Dn cX1_scoreAll 59 (.putfield 31) 3 62 := ⟨by decide +kernel, rfl⟩
theorem dX1_scoreAll_62 : Dn cX1_scoreAll 62 (.return_) 1 63 := ⟨by decide +kernel, rfl⟩
theorem dX1_keptScore_0 : Dn cX1_keptScore 0 (.aload_n 0) 1 1 := ⟨by decide +kernel, rfl⟩
theorem dX1_keptScore_1 : Dn cX1_keptScore 1 (.iload_n 1) 1 2 := ⟨by decide +kernel, rfl⟩
theorem dX1_keptScore_2 : Dn cX1_keptScore 2 (.iload_n 2) 1 3 := ⟨by decide +kernel, rfl⟩
theorem dX1_keptScore_3 : Dn cX1_keptScore 3 (.invokevirtual 35) 3 6 := ⟨by decide +kernel, rfl⟩
theorem dX1_keptScore_6 : Dj cX1_keptScore 6 (fun o => .ifCond .eq o) (17) 3 9 23 := ⟨by decide +kernel, rfl, by decide⟩
theorem dX1_keptScore_9 : Dn cX1_keptScore 9 (.aload_n 0) 1 10 := ⟨by decide +kernel, rfl⟩
theorem dX1_keptScore_10 : Dn cX1_keptScore 10 (.getfield 15) 3 13 := ⟨by decide +kernel, rfl⟩
theorem dX1_keptScore_13 : Dn cX1_keptScore 13 (.iload_n 2) 1 14 := ⟨by decide +kernel, rfl⟩
theorem dX1_keptScore_14 : Dn cX1_keptScore 14 (.bipush 20) 2 16 := ⟨by decide +kernel, rfl⟩
theorem dX1_keptScore_16 : Dn cX1_keptScore 16 (.imul) 1 17 := ⟨by decide +kernel, rfl⟩
theorem dX1_keptScore_17 : Dn cX1_keptScore 17 (.iload_n 1) 1 18 := ⟨by decide +kernel, rfl⟩
theorem dX1_keptScore_18 : Dn cX1_keptScore 18 (.iadd) 1 19 := ⟨by decide +kernel, rfl⟩
theorem dX1_keptScore_19 : Dn cX1_keptScore 19 (.iaload) 1 20 := ⟨by decide +kernel, rfl⟩
theorem dX1_keptScore_20 : Dj cX1_keptScore 20 .goto (4) 3 23 24 := ⟨by decide +kernel, rfl, by decide⟩
theorem dX1_keptScore_23 : Dn cX1_keptScore 23 (.iconst 0) 1 24 := ⟨by decide +kernel, rfl⟩
theorem dX1_keptScore_24 : Dn cX1_keptScore 24 (.ireturn) 1 25 := ⟨by decide +kernel, rfl⟩
theorem dX1_isPeak_0 : Dn cX1_isPeak 0 (.aload_n 0) 1 1 := ⟨by decide +kernel, rfl⟩
theorem dX1_isPeak_1 : Dn cX1_isPeak 1 (.iload_n 1) 1 2 := ⟨by decide +kernel, rfl⟩
theorem dX1_isPeak_2 : Dn cX1_isPeak 2 (.iload_n 2) 1 3 := ⟨by decide +kernel, rfl⟩
theorem dX1_isPeak_3 : Dn cX1_isPeak 3 (.invokevirtual 60) 3 6 := ⟨by decide +kernel, rfl⟩
theorem dX1_isPeak_6 : Dn cX1_isPeak 6 (.istore_n 3) 1 7 := ⟨by decide +kernel, rfl⟩
theorem dX1_isPeak_7 : Dn cX1_isPeak 7 (.iload_n 2) 1 8 := ⟨by decide +kernel, rfl⟩
theorem dX1_isPeak_8 : Dn cX1_isPeak 8 (.iconst 2) 1 9 := ⟨by decide +kernel, rfl⟩
theorem dX1_isPeak_9 : Dn cX1_isPeak 9 (.isub) 1 10 := ⟨by decide +kernel, rfl⟩
theorem dX1_isPeak_10 : Dn cX1_isPeak 10 (.istore 4) 2 12 := ⟨by decide +kernel, rfl⟩
theorem dX1_isPeak_12 : Dn cX1_isPeak 12 (.iload 4) 2 14 := ⟨by decide +kernel, rfl⟩
theorem dX1_isPeak_14 : Dn cX1_isPeak 14 (.iload_n 2) 1 15 := ⟨by decide +kernel, rfl⟩
theorem dX1_isPeak_15 : Dn cX1_isPeak 15 (.iconst 2) 1 16 := ⟨by decide +kernel, rfl⟩
theorem dX1_isPeak_16 : Dn cX1_isPeak 16 (.iadd) 1 17 := ⟨by decide +kernel, rfl⟩
theorem dX1_isPeak_17 : Dj cX1_isPeak 17 (fun o => .if_icmp .gt o) (82) 3 20 99 := ⟨by decide +kernel, rfl, by decide⟩
theorem dX1_isPeak_20 : Dn cX1_isPeak 20 (.iload_n 1) 1 21 := ⟨by decide +kernel, rfl⟩
theorem dX1_isPeak_21 : Dn cX1_isPeak 21 (.iconst 2) 1 22 := ⟨by decide +kernel, rfl⟩
theorem dX1_isPeak_22 : Dn cX1_isPeak 22 (.isub) 1 23 := ⟨by decide +kernel, rfl⟩
theorem dX1_isPeak_23 : Dn cX1_isPeak 23 (.istore 5) 2 25 := ⟨by decide +kernel, rfl⟩
theorem dX1_isPeak_25 : Dn cX1_isPeak 25 (.iload 5) 2 27 := ⟨by decide +kernel, rfl⟩
theorem dX1_isPeak_27 : Dn cX1_isPeak 27 (.iload_n 1) 1 28 := ⟨by decide +kernel, rfl⟩
theorem dX1_isPeak_28 : Dn cX1_isPeak 28 (.iconst 2) 1 29 := ⟨by decide +kernel, rfl⟩
theorem dX1_isPeak_29 : Dn cX1_isPeak 29 (.iadd) 1 30 := ⟨by decide +kernel, rfl⟩
theorem dX1_isPeak_30 : Dj cX1_isPeak 30 (fun o => .if_icmp .gt o) (63) 3 33 93 := ⟨by decide +kernel, rfl, by decide⟩
theorem dX1_isPeak_33 : Dn cX1_isPeak 33 (.aload_n 0) 1 34 := ⟨by decide +kernel, rfl⟩
theorem dX1_isPeak_34 : Dn cX1_isPeak 34 (.iload 5) 2 36 := ⟨by decide +kernel, rfl⟩
theorem dX1_isPeak_36 : Dn cX1_isPeak 36 (.iload 4) 2 38 := ⟨by decide +kernel, rfl⟩
theorem dX1_isPeak_38 : Dn cX1_isPeak 38 (.invokevirtual 60) 3 41 := ⟨by decide +kernel, rfl⟩
theorem dX1_isPeak_41 : Dn cX1_isPeak 41 (.istore 6) 2 43 := ⟨by decide +kernel, rfl⟩
theorem dX1_isPeak_43 : Dn cX1_isPeak 43 (.iload 4) 2 45 := ⟨by decide +kernel, rfl⟩
theorem dX1_isPeak_45 : Dn cX1_isPeak 45 (.iload_n 2) 1 46 := ⟨by decide +kernel, rfl⟩
theorem dX1_isPeak_46 : Dj cX1_isPeak 46 (fun o => .if_icmp .lt o) (15) 3 49 61 := ⟨by decide +kernel, rfl, by decide⟩
theorem dX1_isPeak_49 : Dn cX1_isPeak 49 (.iload 4) 2 51 := ⟨by decide +kernel, rfl⟩
theorem dX1_isPeak_51 : Dn cX1_isPeak 51 (.iload_n 2) 1 52 := ⟨by decide +kernel, rfl⟩
theorem dX1_isPeak_52 : Dj cX1_isPeak 52 (fun o => .if_icmp .ne o) (13) 3 55 65 := ⟨by decide +kernel, rfl, by decide⟩
theorem dX1_isPeak_55 : Dn cX1_isPeak 55 (.iload 5) 2 57 := ⟨by decide +kernel, rfl⟩
theorem dX1_isPeak_57 : Dn cX1_isPeak 57 (.iload_n 1) 1 58 := ⟨by decide +kernel, rfl⟩
theorem dX1_isPeak_58 : Dj cX1_isPeak 58 (fun o => .if_icmp .ge o) (7) 3 61 65 := ⟨by decide +kernel, rfl, by decide⟩
theorem dX1_isPeak_61 : Dn cX1_isPeak 61 (.iconst 1) 1 62 := ⟨by decide +kernel, rfl⟩
theorem dX1_isPeak_62 : Dj cX1_isPeak 62 .goto (4) 3 65 66 := ⟨by decide +kernel, rfl, by decide⟩
theorem dX1_isPeak_65 : Dn cX1_isPeak 65 (.iconst 0) 1 66 := ⟨by decide +kernel, rfl⟩
theorem dX1_isPeak_66 : Dn cX1_isPeak 66 (.istore 7) 2 68 := ⟨by decide +kernel, rfl⟩
theorem dX1_isPeak_68 : Dn cX1_isPeak 68 (.iload 6) 2 70 := ⟨by decide +kernel, rfl⟩
theorem dX1_isPeak_70 : Dn cX1_isPeak 70 (.iload_n 3) 1 71 := ⟨by decide +kernel, rfl⟩
theorem dX1_isPeak_71 : Dj cX1_isPeak 71 (fun o => .if_icmp .gt o) (14) 3 74 85 := ⟨by decide +kernel, rfl, by decide⟩
theorem dX1_isPeak_74 : Dn cX1_isPeak 74 (.iload 7) 2 76 := ⟨by decide +kernel, rfl⟩
theorem dX1_isPeak_76 : Dj cX1_isPeak 76 (fun o => .ifCond .eq o) (11) 3 79 87 := ⟨by decide +kernel, rfl, by decide⟩
theorem dX1_isPeak_79 : Dn cX1_isPeak 79 (.iload 6) 2 81 := ⟨by decide +kernel, rfl⟩
theorem dX1_isPeak_81 : Dn cX1_isPeak 81 (.iload_n 3) 1 82 := ⟨by decide +kernel, rfl⟩
theorem dX1_isPeak_82 : Dj cX1_isPeak 82 (fun o => .if_icmp .ne o) (5) 3 85 87 := ⟨by decide +kernel, rfl, by decide⟩
theorem dX1_isPeak_85 : Dn cX1_isPeak 85 (.iconst 0) 1 86 := ⟨by decide +kernel, rfl⟩
theorem dX1_isPeak_86 : Dn cX1_isPeak 86 (.ireturn) 1 87 := ⟨by decide +kernel, rfl⟩
theorem dX1_isPeak_87 : Dn cX1_isPeak 87 (.iinc 5 1) 3 90 := ⟨by decide +kernel, rfl⟩
theorem dX1_isPeak_90 : Dj cX1_isPeak 90 .goto (-65) 3 93 25 := ⟨by decide +kernel, rfl, by decide⟩
theorem dX1_isPeak_93 : Dn cX1_isPeak 93 (.iinc 4 1) 3 96 := ⟨by decide +kernel, rfl⟩
theorem dX1_isPeak_96 : Dj cX1_isPeak 96 .goto (-84) 3 99 12 := ⟨by decide +kernel, rfl, by decide⟩
theorem dX1_isPeak_99 : Dn cX1_isPeak 99 (.iconst 1) 1 100 := ⟨by decide +kernel, rfl⟩
theorem dX1_isPeak_100 : Dn cX1_isPeak 100 (.ireturn) 1 101 := ⟨by decide +kernel, rfl⟩
theorem dX1_signOf_0 : Dn cX1_signOf 0 (.iconst 0) 1 1 := ⟨by decide +kernel, rfl⟩
theorem dX1_signOf_1 : Dn cX1_signOf 1 (.istore_n 3) 1 2 := ⟨by decide +kernel, rfl⟩
theorem dX1_signOf_2 : Dn cX1_signOf 2 (.iconst 0) 1 3 := ⟨by decide +kernel, rfl⟩
theorem dX1_signOf_3 : Dn cX1_signOf 3 (.istore 4) 2 5 := ⟨by decide +kernel, rfl⟩
theorem dX1_signOf_5 : Dn cX1_signOf 5 (.iload 4) 2 7 := ⟨by decide +kernel, rfl⟩
theorem dX1_signOf_7 : Dn cX1_signOf 7 (.bipush 12) 2 9 := ⟨by decide +kernel, rfl⟩
theorem dX1_signOf_9 : Dj cX1_signOf 9 (fun o => .if_icmp .ge o) (67) 3 12 76 := ⟨by decide +kernel, rfl, by decide⟩
theorem dX1_signOf_12 : Dn cX1_signOf 12 (.aload_n 0) 1 13 := ⟨by decide +kernel, rfl⟩
theorem dX1_signOf_13 : Dn cX1_signOf 13 (.iload_n 1) 1 14 := ⟨by decide +kernel, rfl⟩
theorem dX1_signOf_14 : Dn cX1_signOf 14 (.iload 4) 2 16 := ⟨by decide +kernel, rfl⟩
theorem dX1_signOf_16 : Dn cX1_signOf 16 (.iconst 5) 1 17 := ⟨by decide +kernel, rfl⟩
theorem dX1_signOf_17 : Dn cX1_signOf 17 (.irem) 1 18 := ⟨by decide +kernel, rfl⟩
theorem dX1_signOf_18 : Dn cX1_signOf 18 (.iadd) 1 19 := ⟨by decide +kernel, rfl⟩
theorem dX1_signOf_19 : Dn cX1_signOf 19 (.iconst 2) 1 20 := ⟨by decide +kernel, rfl⟩
theorem dX1_signOf_20 : Dn cX1_signOf 20 (.isub) 1 21 := ⟨by decide +kernel, rfl⟩
theorem dX1_signOf_21 : Dn cX1_signOf 21 (.iload_n 2) 1 22 := ⟨by decide +kernel, rfl⟩
theorem dX1_signOf_22 : Dn cX1_signOf 22 (.iload 4) 2 24 := ⟨by decide +kernel, rfl⟩
theorem dX1_signOf_24 : Dn cX1_signOf 24 (.iconst 3) 1 25 := ⟨by decide +kernel, rfl⟩
theorem dX1_signOf_25 : Dn cX1_signOf 25 (.irem) 1 26 := ⟨by decide +kernel, rfl⟩
theorem dX1_signOf_26 : Dn cX1_signOf 26 (.iadd) 1 27 := ⟨by decide +kernel, rfl⟩
theorem dX1_signOf_27 : Dn cX1_signOf 27 (.iconst 1) 1 28 := ⟨by decide +kernel, rfl⟩
theorem dX1_signOf_28 : Dn cX1_signOf 28 (.isub) 1 29 := ⟨by decide +kernel, rfl⟩
theorem dX1_signOf_29 : Dn cX1_signOf 29 (.invokevirtual 54) 3 32 := ⟨by decide +kernel, rfl⟩
theorem dX1_signOf_32 : Dn cX1_signOf 32 (.istore 5) 2 34 := ⟨by decide +kernel, rfl⟩
theorem dX1_signOf_34 : Dn cX1_signOf 34 (.aload_n 0) 1 35 := ⟨by decide +kernel, rfl⟩
theorem dX1_signOf_35 : Dn cX1_signOf 35 (.iload_n 1) 1 36 := ⟨by decide +kernel, rfl⟩
theorem dX1_signOf_36 : Dn cX1_signOf 36 (.iconst 2) 1 37 := ⟨by decide +kernel, rfl⟩
theorem dX1_signOf_37 : Dn cX1_signOf 37 (.iadd) 1 38 := ⟨by decide +kernel, rfl⟩
theorem dX1_signOf_38 : Dn cX1_signOf 38 (.iload 4) 2 40 := ⟨by decide +kernel, rfl⟩
theorem dX1_signOf_40 : Dn cX1_signOf 40 (.iconst 4) 1 41 := ⟨by decide +kernel, rfl⟩
theorem dX1_signOf_41 : Dn cX1_signOf 41 (.irem) 1 42 := ⟨by decide +kernel, rfl⟩
theorem dX1_signOf_42 : Dn cX1_signOf 42 (.isub) 1 43 := ⟨by decide +kernel, rfl⟩
theorem dX1_signOf_43 : Dn cX1_signOf 43 (.iload_n 2) 1 44 := ⟨by decide +kernel, rfl⟩
theorem dX1_signOf_44 : Dn cX1_signOf 44 (.iload 4) 2 46 := ⟨by decide +kernel, rfl⟩
theorem dX1_signOf_46 : Dn cX1_signOf 46 (.iconst 5) 1 47 := ⟨by decide +kernel, rfl⟩
theorem dX1_signOf_47 : Dn cX1_signOf 47 (.irem) 1 48 := ⟨by decide +kernel, rfl⟩
theorem dX1_signOf_48 : Dn cX1_signOf 48 (.iadd) 1 49 := ⟨by decide +kernel, rfl⟩
theorem dX1_signOf_49 : Dn cX1_signOf 49 (.iconst 2) 1 50 := ⟨by decide +kernel, rfl⟩
theorem dX1_signOf_50 : Dn cX1_signOf 50 (.isub) 1 51 := ⟨by decide +kernel, rfl⟩
theorem dX1_signOf_51 : Dn cX1_signOf 51 (.invokevirtual 54) 3 54 := ⟨by decide +kernel, rfl⟩
theorem dX1_signOf_54 : Dn cX1_signOf 54 (.istore 6) 2 56 := ⟨by decide +kernel, rfl⟩
theorem dX1_signOf_56 : Dn cX1_signOf 56 (.iload 5) 2 58 := ⟨by decide +kernel, rfl⟩
theorem dX1_signOf_58 : Dn cX1_signOf 58 (.iload 6) 2 60 := ⟨by decide +kernel, rfl⟩
theorem dX1_signOf_60 : Dj cX1_signOf 60 (fun o => .if_icmp .ge o) (10) 3 63 70 := ⟨by decide +kernel, rfl, by decide⟩
theorem dX1_signOf_63 : Dn cX1_signOf 63 (.iload_n 3) 1 64 := ⟨by decide +kernel, rfl⟩
theorem dX1_signOf_64 : Dn cX1_signOf 64 (.iconst 1) 1 65 := ⟨by decide +kernel, rfl⟩
theorem dX1_signOf_65 : Dn cX1_signOf 65 (.iload 4) 2 67 := ⟨by decide +kernel, rfl⟩
theorem dX1_signOf_67 : Dn cX1_signOf 67 (.ishl) 1 68 := ⟨by decide +kernel, rfl⟩
theorem dX1_signOf_68 : Dn cX1_signOf 68 (.ior) 1 69 := ⟨by decide +kernel, rfl⟩
theorem dX1_signOf_69 : Dn cX1_signOf 69 (.istore_n 3) 1 70 := ⟨by decide +kernel, rfl⟩
theorem dX1_signOf_70 : Dn cX1_signOf 70 (.iinc 4 1) 3 73 := ⟨by decide +kernel, rfl⟩
theorem dX1_signOf_73 : Dj cX1_signOf 73 .goto (-68) 3 76 5 := ⟨by decide +kernel, rfl, by decide⟩
theorem dX1_signOf_76 : Dn cX1_signOf 76 (.iload_n 3) 1 77 := ⟨by decide +kernel, rfl⟩
theorem dX1_signOf_77 : Dn cX1_signOf 77 (.ireturn) 1 78 := ⟨by decide +kernel, rfl⟩
theorem dX2_init_0 : Dn cX2_init 0 (.aload_n 0) 1 1 := ⟨by decide +kernel, rfl⟩
theorem dX2_init_1 : Dn cX2_init 1 (.invokespecial 3) 3 4 := ⟨by decide +kernel, rfl⟩
theorem dX2_init_4 : Dn cX2_init 4 (.aload_n 0) 1 5 := ⟨by decide +kernel, rfl⟩
theorem dX2_init_5 : Dn cX2_init 5 (.bipush 16) 2 7 := ⟨by decide +kernel, rfl⟩
theorem dX2_init_7 : Dn cX2_init 7 (.newarray .int) 2 9 := ⟨by decide +kernel, rfl⟩
theorem dX2_init_9 : Dn cX2_init 9 (.putfield 9) 3 12 := ⟨by decide +kernel, rfl⟩
theorem dX2_init_12 : Dn cX2_init 12 (.aload_n 0) 1 13 := ⟨by decide +kernel, rfl⟩
theorem dX2_init_13 : Dn cX2_init 13 (.bipush 16) 2 15 := ⟨by decide +kernel, rfl⟩
theorem dX2_init_15 : Dn cX2_init 15 (.newarray .int) 2 17 := ⟨by decide +kernel, rfl⟩
theorem dX2_init_17 : Dn cX2_init 17 (.putfield 15) 3 20 := ⟨by decide +kernel, rfl⟩
theorem dX2_init_20 : Dn cX2_init 20 (.aload_n 0) 1 21 := ⟨by decide +kernel, rfl⟩
theorem dX2_init_21 : Dn cX2_init 21 (.bipush 16) 2 23 := ⟨by decide +kernel, rfl⟩
theorem dX2_init_23 : Dn cX2_init 23 (.newarray .int) 2 25 := ⟨by decide +kernel, rfl⟩
theorem dX2_init_25 : Dn cX2_init 25 (.putfield 18) 3 28 := ⟨by decide +kernel, rfl⟩
theorem dX2_init_28 : Dn cX2_init 28 (.aload_n 0) 1 29 := ⟨by decide +kernel, rfl⟩
theorem dX2_init_29 : Dn cX2_init 29 (.bipush 16) 2 31 := ⟨by decide +kernel, rfl⟩
theorem dX2_init_31 : Dn cX2_init 31 (.newarray .int) 2 33 := ⟨by decide +kernel, rfl⟩
theorem dX2_init_33 : Dn cX2_init 33 (.putfield 21) 3 36 := ⟨by decide +kernel, rfl⟩
theorem dX2_init_36 : Dn cX2_init 36 (.return_) 1 37 := ⟨by decide +kernel, rfl⟩
theorem dX2_find_0 : Dn cX2_find 0 (.aload_n 0) 1 1 := ⟨by decide +kernel, rfl⟩
theorem dX2_find_1 : Dn cX2_find 1 (.iconst 0) 1 2 := ⟨by decide +kernel, rfl⟩
theorem dX2_find_2 : Dn cX2_find 2 (.putfield 24) 3 5 := ⟨by decide +kernel, rfl⟩
theorem dX2_find_5 : Dn cX2_find 5 (.iconst 0) 1 6 := ⟨by decide +kernel, rfl⟩
theorem dX2_find_6 : Dn cX2_find 6 (.istore_n 3) 1 7 := ⟨by decide +kernel, rfl⟩
theorem dX2_find_7 : Dn cX2_find 7 (.iload_n 3) 1 8 := ⟨by decide +kernel, rfl⟩
theorem dX2_find_8 : Dn cX2_find 8 (.aload_n 1) 1 9 := ⟨by decide +kernel, rfl⟩
theorem dX2_find_9 : Dn cX2_find 9 (.getfield 28) 3 12 := ⟨by decide +kernel, rfl⟩
theorem dX2_find_12 : Dj cX2_find 12 (fun o => .if_icmp .ge o) (61) 3 15 73 := ⟨by decide +kernel, rfl, by decide⟩
theorem dX2_find_15 : Dn cX2_find 15 (.iconst 0) 1 16 := ⟨by decide +kernel, rfl⟩
theorem dX2_find_16 : Dn cX2_find 16 (.istore 4) 2 18 := ⟨by decide +kernel, rfl⟩
theorem dX2_find_18 : Dn cX2_find 18 (.iload 4) 2 20 := ⟨by decide +kernel, rfl⟩
theorem dX2_find_20 : Dn cX2_find 20 (.aload_n 1) 1 21 := ⟨by decide +kernel, rfl⟩
theorem dX2_find_21 : Dn cX2_find 21 (.getfield 33) 3 24 := ⟨by decide +kernel, rfl⟩
theorem dX2_find_24 : Dj cX2_find 24 (fun o => .if_icmp .ge o) (43) 3 27 67 := ⟨by decide +kernel, rfl, by decide⟩
theorem dX2_find_27 : Dn cX2_find 27 (.aload_n 1) 1 28 := ⟨by decide +kernel, rfl⟩
theorem dX2_find_28 : Dn cX2_find 28 (.iload 4) 2 30 := ⟨by decide +kernel, rfl⟩
theorem dX2_find_30 : Dn cX2_find 30 (.iload_n 3) 1 31 := ⟨by decide +kernel, rfl⟩
theorem dX2_find_31 : Dn cX2_find 31 (.invokevirtual 36) 3 34 := ⟨by decide +kernel, rfl⟩
theorem dX2_find_34 : Dn cX2_find 34 (.istore 5) 2 36 := ⟨by decide +kernel, rfl⟩
theorem dX2_find_36 : Dn cX2_find 36 (.iload 5) 2 38 := ⟨by decide +kernel, rfl⟩
theorem dX2_find_38 : Dn cX2_find 38 (.iload_n 2) 1 39 := ⟨by decide +kernel, rfl⟩
theorem dX2_find_39 : Dj cX2_find 39 (fun o => .if_icmp .lt o) (22) 3 42 61 := ⟨by decide +kernel, rfl, by decide⟩
theorem dX2_find_42 : Dn cX2_find 42 (.aload_n 1) 1 43 := ⟨by decide +kernel, rfl⟩
theorem dX2_find_43 : Dn cX2_find 43 (.iload 4) 2 45 := ⟨by decide +kernel, rfl⟩
theorem dX2_find_45 : Dn cX2_find 45 (.iload_n 3) 1 46 := ⟨by decide +kernel, rfl⟩
theorem dX2_find_46 : Dn cX2_find 46 (.invokevirtual 40) 3 49 := ⟨by decide +kernel, rfl⟩
theorem dX2_find_49 : Dj cX2_find 49 (fun o => .ifCond .eq o) (12) 3 52 61 := ⟨by decide +kernel, rfl, by decide⟩
theorem dX2_find_52 : Dn cX2_find 52 (.aload_n 0) 1 53 := ⟨by decide +kernel, rfl⟩
theorem dX2_find_53 : Dn cX2_find 53 (.iload 4) 2 55 := ⟨by decide +kernel, rfl⟩
theorem dX2_find_55 : Dn cX2_find 55 (.iload_n 3) 1 56 := ⟨by decide +kernel, rfl⟩
theorem dX2_find_56 : Dn cX2_find 56 (.iload 5) 2 58 := ⟨by decide +kernel, rfl⟩
theorem dX2_find_58 : Dn cX2_find 58 (.invokevirtual 44) 3 61 := ⟨by decide +kernel, rfl⟩
theorem dX2_find_61 : Dn cX2_find 61 (.iinc 4 1) 3 64 := ⟨by decide +kernel, rfl⟩
theorem dX2_find_64 : Dj cX2_find 64 .goto (-46) 3 67 18 := ⟨by decide +kernel, rfl, by decide⟩
theorem dX2_find_67 : Dn cX2_find 67 (.iinc 3 1) 3 70 := ⟨by decide +kernel, rfl⟩
theorem dX2_find_70 : Dj cX2_find 70 .goto (-63) 3 73 7 := ⟨by decide +kernel, rfl, by decide⟩
theorem dX2_find_73 : Dn cX2_find 73 (.iconst 0) 1 74 := ⟨by decide +kernel, rfl⟩
theorem dX2_find_74 : Dn cX2_find 74 (.istore_n 3) 1 75 := ⟨by decide +kernel, rfl⟩
theorem dX2_find_75 : Dn cX2_find 75 (.iload_n 3) 1 76 := ⟨by decide +kernel, rfl⟩
theorem dX2_find_76 : Dn cX2_find 76 (.aload_n 0) 1 77 := ⟨by decide +kernel, rfl⟩
theorem dX2_find_77 : Dn cX2_find 77 (.getfield 24) 3 80 := ⟨by decide +kernel, rfl⟩
theorem dX2_find_80 : Dj cX2_find 80 (fun o => .if_icmp .ge o) (31) 3 83 111 := ⟨by decide +kernel, rfl, by decide⟩
theorem dX2_find_83 : Dn cX2_find 83 (.aload_n 0) 1 84 := ⟨by decide +kernel, rfl⟩
theorem dX2_find_84 : Dn cX2_find 84 (.getfield 21) 3 87 := ⟨by decide +kernel, rfl⟩
theorem dX2_find_87 : Dn cX2_find 87 (.iload_n 3) 1 88 := ⟨by decide +kernel, rfl⟩
theorem dX2_find_88 : Dn cX2_find 88 (.aload_n 1) 1 89 := ⟨by decide +kernel, rfl⟩
theorem dX2_find_89 : Dn cX2_find 89 (.aload_n 0) 1 90 := ⟨by decide +kernel, rfl⟩
theorem dX2_find_90 : Dn cX2_find 90 (.getfield 9) 3 93 := ⟨by decide +kernel, rfl⟩
theorem dX2_find_93 : Dn cX2_find 93 (.iload_n 3) 1 94 := ⟨by decide +kernel, rfl⟩
theorem dX2_find_94 : Dn cX2_find 94 (.iaload) 1 95 := ⟨by decide +kernel, rfl⟩
theorem dX2_find_95 : Dn cX2_find 95 (.aload_n 0) 1 96 := ⟨by decide +kernel, rfl⟩
theorem dX2_find_96 : Dn cX2_find 96 (.getfield 15) 3 99 := ⟨by decide +kernel, rfl⟩
theorem dX2_find_99 : Dn cX2_find 99 (.iload_n 3) 1 100 := ⟨by decide +kernel, rfl⟩
theorem dX2_find_100 : Dn cX2_find 100 (.iaload) 1 101 := ⟨by decide +kernel, rfl⟩
theorem dX2_find_101 : Dn cX2_find 101 (.invokevirtual 48) 3 104 := ⟨by decide +kernel, rfl⟩
theorem dX2_find_104 : Dn cX2_find 104 (.iastore) 1 105 := ⟨by decide +kernel, rfl⟩
theorem dX2_find_105 : Dn cX2_find 105 (.iinc 3 1) 3 108 := ⟨by decide +kernel, rfl⟩
theorem dX2_find_108 : Dj cX2_find 108 .goto (-33) 3 111 75 := ⟨by decide +kernel, rfl, by decide⟩
theorem dX2_find_111 : Dn cX2_find 111 (.return_) 1 112 := ⟨by decide +kernel, rfl⟩
theorem dX2_insert_0 : Dn cX2_insert 0 (.aload_n 0) 1 1 := ⟨by decide +kernel, rfl⟩
theorem dX2_insert_1 : Dn cX2_insert 1 (.getfield 24) 3 4 := ⟨by decide +kernel, rfl⟩
theorem dX2_insert_4 : Dn cX2_insert 4 (.istore 4) 2 6 := ⟨by decide +kernel, rfl⟩
theorem dX2_insert_6 : Dn cX2_insert 6 (.iload 4) 2 8 := ⟨by decide +kernel, rfl⟩
theorem dX2_insert_8 : Dj cX2_insert 8 (fun o => .ifCond .le o) (22) 3 11 30 := ⟨by decide +kernel, rfl, by decide⟩
theorem dX2_insert_11 : Dn cX2_insert 11 (.aload_n 0) 1 12 := ⟨by decide +kernel, rfl⟩
theorem dX2_insert_12 : Dn cX2_insert 12 (.getfield 18) 3 15 := ⟨by decide +kernel, rfl⟩
theorem dX2_insert_15 : Dn cX2_insert 15 (.iload 4) 2 17 := ⟨by decide +kernel, rfl⟩
theorem dX2_insert_17 : Dn cX2_insert 17 (.iconst 1) 1 18 := ⟨by decide +kernel, rfl⟩
theorem dX2_insert_18 : Dn cX2_insert 18 (.isub) 1 19 := ⟨by decide +kernel, rfl⟩
theorem dX2_insert_19 : Dn cX2_insert 19 (.iaload) 1 20 := ⟨by decide +kernel, rfl⟩
theorem dX2_insert_20 : Dn cX2_insert 20 (.iload_n 3) 1 21 := ⟨by decide +kernel, rfl⟩
theorem dX2_insert_21 : Dj cX2_insert 21 (fun o => .if_icmp .ge o) (9) 3 24 30 := ⟨by decide +kernel, rfl, by decide⟩
theorem dX2_insert_24 : Dn cX2_insert 24 (.iinc 4 (-1)) 3 27 := ⟨by decide +kernel, rfl⟩
theorem dX2_insert_27 : Dj cX2_insert 27 .goto (-21) 3 30 6 := ⟨by decide +kernel, rfl, by decide⟩
theorem dX2_insert_30 : Dn cX2_insert 30 (.iload 4) 2 32 := ⟨by decide +kernel, rfl⟩
theorem dX2_insert_32 : Dn cX2_insert 32 (.bipush 16) 2 34 := ⟨by decide +kernel, rfl⟩
theorem dX2_insert_34 : Dj cX2_insert 34 (fun o => .if_icmp .lt o) (4) 3 37 38 := ⟨by decide +kernel, rfl, by decide⟩
theorem dX2_insert_37 : Dn cX2_insert 37 (.return_) 1 38 := ⟨by decide +kernel, rfl⟩
theorem dX2_insert_38 : Dn cX2_insert 38 (.aload_n 0) 1 39 := ⟨by decide +kernel, rfl⟩
theorem dX2_insert_39 : Dn cX2_insert 39 (.aload_n 0) 1 40 := ⟨by decide +kernel, rfl⟩
theorem dX2_insert_40 : Dn cX2_insert 40 (.getfield 24) 3 43 := ⟨by decide +kernel, rfl⟩
theorem dX2_insert_43 : Dn cX2_insert 43 (.iconst 1) 1 44 := ⟨by decide +kernel, rfl⟩
theorem dX2_insert_44 : Dn cX2_insert 44 (.iadd) 1 45 := ⟨by decide +kernel, rfl⟩
theorem dX2_insert_45 : Dn cX2_insert 45 (.bipush 16) 2 47 := ⟨by decide +kernel, rfl⟩
theorem dX2_insert_47 : Dn cX2_insert 47 (.invokestatic 51) 3 50 := ⟨by decide +kernel, rfl⟩
theorem dX2_insert_50 : Dn cX2_insert 50 (.putfield 24) 3 53 := ⟨by decide +kernel, rfl⟩
theorem dX2_insert_53 : Dn cX2_insert 53 (.aload_n 0) 1 54 := ⟨by decide +kernel, rfl⟩
theorem dX2_insert_54 : Dn cX2_insert 54 (.getfield 24) 3 57 := ⟨by decide +kernel, rfl⟩
theorem dX2_insert_57 : Dn cX2_insert 57 (.iconst 1) 1 58 := ⟨by decide +kernel, rfl⟩
theorem dX2_insert_58 : Dn cX2_insert 58 (.isub) 1 59 := ⟨by decide +kernel, rfl⟩
theorem dX2_insert_59 : Dn cX2_insert 59 (.istore 5) 2 61 := ⟨by decide +kernel, rfl⟩
theorem dX2_insert_61 : Dn cX2_insert 61 (.iload 5) 2 63 := ⟨by decide +kernel, rfl⟩
theorem dX2_insert_63 : Dn cX2_insert 63 (.iload 4) 2 65 := ⟨by decide +kernel, rfl⟩
theorem dX2_insert_65 : Dj cX2_insert 65 (fun o => .if_icmp .le o) (57) 3 68 122 := ⟨by decide +kernel, rfl, by decide⟩
theorem dX2_insert_68 : Dn cX2_insert 68 (.aload_n 0) 1 69 := ⟨by decide +kernel, rfl⟩
theorem dX2_insert_69 : Dn cX2_insert 69 (.getfield 9) 3 72 := ⟨by decide +kernel, rfl⟩
theorem dX2_insert_72 : Dn cX2_insert 72 (.iload 5) 2 74 := ⟨by decide +kernel, rfl⟩
theorem dX2_insert_74 : Dn cX2_insert 74 (.aload_n 0) 1 75 := ⟨by decide +kernel, rfl⟩
theorem dX2_insert_75 : Dn cX2_insert 75 (.getfield 9) 3 78 := ⟨by decide +kernel, rfl⟩
theorem dX2_insert_78 : Dn cX2_insert 78 (.iload 5) 2 80 := ⟨by decide +kernel, rfl⟩
theorem dX2_insert_80 : Dn cX2_insert 80 (.iconst 1) 1 81 := ⟨by decide +kernel, rfl⟩
theorem dX2_insert_81 : Dn cX2_insert 81 (.isub) 1 82 := ⟨by decide +kernel, rfl⟩
theorem dX2_insert_82 : Dn cX2_insert 82 (.iaload) 1 83 := ⟨by decide +kernel, rfl⟩
theorem dX2_insert_83 : Dn cX2_insert 83 (.iastore) 1 84 := ⟨by decide +kernel, rfl⟩
theorem dX2_insert_84 : Dn cX2_insert 84 (.aload_n 0) 1 85 := ⟨by decide +kernel, rfl⟩
theorem dX2_insert_85 : Dn cX2_insert 85 (.getfield 15) 3 88 := ⟨by decide +kernel, rfl⟩
theorem dX2_insert_88 : Dn cX2_insert 88 (.iload 5) 2 90 := ⟨by decide +kernel, rfl⟩
theorem dX2_insert_90 : Dn cX2_insert 90 (.aload_n 0) 1 91 := ⟨by decide +kernel, rfl⟩
theorem dX2_insert_91 : Dn cX2_insert 91 (.getfield 15) 3 94 := ⟨by decide +kernel, rfl⟩
theorem dX2_insert_94 : Dn cX2_insert 94 (.iload 5) 2 96 := ⟨by decide +kernel, rfl⟩
theorem dX2_insert_96 : Dn cX2_insert 96 (.iconst 1) 1 97 := ⟨by decide +kernel, rfl⟩
theorem dX2_insert_97 : Dn cX2_insert 97 (.isub) 1 98 := ⟨by decide +kernel, rfl⟩
theorem dX2_insert_98 : Dn cX2_insert 98 (.iaload) 1 99 := ⟨by decide +kernel, rfl⟩
theorem dX2_insert_99 : Dn cX2_insert 99 (.iastore) 1 100 := ⟨by decide +kernel, rfl⟩
theorem dX2_insert_100 : Dn cX2_insert 100 (.aload_n 0) 1 101 := ⟨by decide +kernel, rfl⟩
theorem dX2_insert_101 : Dn cX2_insert 101 (.getfield 18) 3 104 := ⟨by decide +kernel, rfl⟩
theorem dX2_insert_104 : Dn cX2_insert 104 (.iload 5) 2 106 := ⟨by decide +kernel, rfl⟩
theorem dX2_insert_106 : Dn cX2_insert 106 (.aload_n 0) 1 107 := ⟨by decide +kernel, rfl⟩
theorem dX2_insert_107 : Dn cX2_insert 107 (.getfield 18) 3 110 := ⟨by decide +kernel, rfl⟩
theorem dX2_insert_110 : Dn cX2_insert 110 (.iload 5) 2 112 := ⟨by decide +kernel, rfl⟩
theorem dX2_insert_112 : Dn cX2_insert 112 (.iconst 1) 1 113 := ⟨by decide +kernel, rfl⟩
theorem dX2_insert_113 : Dn cX2_insert 113 (.isub) 1 114 := ⟨by decide +kernel, rfl⟩
theorem dX2_insert_114 : Dn cX2_insert 114 (.iaload) 1 115 := ⟨by decide +kernel, rfl⟩
theorem dX2_insert_115 : Dn cX2_insert 115 (.iastore) 1 116 := ⟨by decide +kernel, rfl⟩
theorem dX2_insert_116 : Dn cX2_insert 116 (.iinc 5 (-1)) 3 119 := ⟨by decide +kernel, rfl⟩
theorem dX2_insert_119 : Dj cX2_insert 119 .goto (-58) 3 122 61 := ⟨by decide +kernel, rfl, by decide⟩
theorem dX2_insert_122 : Dn cX2_insert 122 (.aload_n 0) 1 123 := ⟨by decide +kernel, rfl⟩
theorem dX2_insert_123 : Dn cX2_insert 123 (.getfield 9) 3 126 := ⟨by decide +kernel, rfl⟩
theorem dX2_insert_126 : Dn cX2_insert 126 (.iload 4) 2 128 := ⟨by decide +kernel, rfl⟩
theorem dX2_insert_128 : Dn cX2_insert 128 (.iload_n 1) 1 129 := ⟨by decide +kernel, rfl⟩
theorem dX2_insert_129 : Dn cX2_insert 129 (.iastore) 1 130 := ⟨by decide +kernel, rfl⟩
theorem dX2_insert_130 : Dn cX2_insert 130 (.aload_n 0) 1 131 := ⟨by decide +kernel, rfl⟩
theorem dX2_insert_131 : Dn cX2_insert 131 (.getfield 15) 3 134 := ⟨by decide +kernel, rfl⟩
theorem dX2_insert_134 : Dn cX2_insert 134 (.iload 4) 2 136 := ⟨by decide +kernel, rfl⟩
theorem dX2_insert_136 : Dn cX2_insert 136 (.iload_n 2) 1 137 := ⟨by decide +kernel, rfl⟩
theorem dX2_insert_137 : Dn cX2_insert 137 (.iastore) 1 138 := ⟨by decide +kernel, rfl⟩
theorem dX2_insert_138 : Dn cX2_insert 138 (.aload_n 0) 1 139 := ⟨by decide +kernel, rfl⟩
theorem dX2_insert_139 : Dn cX2_insert 139 (.getfield 18) 3 142 := ⟨by decide +kernel, rfl⟩
theorem dX2_insert_142 : Dn cX2_insert 142 (.iload 4) 2 144 := ⟨by decide +kernel, rfl⟩
theorem dX2_insert_144 : Dn cX2_insert 144 (.iload_n 3) 1 145 := ⟨by decide +kernel, rfl⟩
theorem dX2_insert_145 : Dn cX2_insert 145 (.iastore) 1 146 := ⟨by decide +kernel, rfl⟩
theorem dX2_insert_146 : Dn cX2_insert 146 (.return_) 1 147 := ⟨by decide +kernel, rfl⟩
theorem dX2_nearestTo_0 : Dn cX2_nearestTo 0 (.bipush (-6)) 2 2 := ⟨by decide +kernel, rfl⟩
theorem dX2_nearestTo_2 : Dn cX2_nearestTo 2 (.istore_n 2) 1 3 := ⟨by decide +kernel, rfl⟩
theorem dX2_nearestTo_3 : Dn cX2_nearestTo 3 (.bipush 13) 2 5 := ⟨by decide +kernel, rfl⟩
theorem dX2_nearestTo_5 : Dn cX2_nearestTo 5 (.istore_n 3) 1 6 := ⟨by decide +kernel, rfl⟩
theorem dX2_nearestTo_6 : Dn cX2_nearestTo 6 (.iconst 0) 1 7 := ⟨by decide +kernel, rfl⟩
theorem dX2_nearestTo_7 : Dn cX2_nearestTo 7 (.istore 4) 2 9 := ⟨by decide +kernel, rfl⟩
theorem dX2_nearestTo_9 : Dn cX2_nearestTo 9 (.iload 4) 2 11 := ⟨by decide +kernel, rfl⟩
theorem dX2_nearestTo_11 : Dn cX2_nearestTo 11 (.aload_n 0) 1 12 := ⟨by decide +kernel, rfl⟩
theorem dX2_nearestTo_12 : Dn cX2_nearestTo 12 (.getfield 24) 3 15 := ⟨by decide +kernel, rfl⟩
theorem dX2_nearestTo_15 : Dj cX2_nearestTo 15 (fun o => .if_icmp .ge o) (35) 3 18 50 := ⟨by decide +kernel, rfl, by decide⟩
theorem dX2_nearestTo_18 : Dn cX2_nearestTo 18 (.aload_n 0) 1 19 := ⟨by decide +kernel, rfl⟩
theorem dX2_nearestTo_19 : Dn cX2_nearestTo 19 (.getfield 21) 3 22 := ⟨by decide +kernel, rfl⟩
theorem dX2_nearestTo_22 : Dn cX2_nearestTo 22 (.iload 4) 2 24 := ⟨by decide +kernel, rfl⟩
theorem dX2_nearestTo_24 : Dn cX2_nearestTo 24 (.iaload) 1 25 := ⟨by decide +kernel, rfl⟩
theorem dX2_nearestTo_25 : Dn cX2_nearestTo 25 (.iload_n 1) 1 26 := ⟨by decide +kernel, rfl⟩
theorem dX2_nearestTo_26 : Dn cX2_nearestTo 26 (.ixor) 1 27 := ⟨by decide +kernel, rfl⟩
theorem dX2_nearestTo_27 : Dn cX2_nearestTo 27 (.invokestatic 56) 3 30 := ⟨by decide +kernel, rfl⟩
theorem dX2_nearestTo_30 : Dn cX2_nearestTo 30 (.istore 5) 2 32 := ⟨by decide +kernel, rfl⟩
theorem dX2_nearestTo_32 : Dn cX2_nearestTo 32 (.iload 5) 2 34 := ⟨by decide +kernel, rfl⟩
theorem dX2_nearestTo_34 : Dn cX2_nearestTo 34 (.iload_n 3) 1 35 := ⟨by decide +kernel, rfl⟩
theorem dX2_nearestTo_35 : Dj cX2_nearestTo 35 (fun o => .if_icmp .ge o) (9) 3 38 44 := ⟨by decide +kernel, rfl, by decide⟩
theorem dX2_nearestTo_38 : Dn cX2_nearestTo 38 (.iload 5) 2 40 := ⟨by decide +kernel, rfl⟩
theorem dX2_nearestTo_40 : Dn cX2_nearestTo 40 (.istore_n 3) 1 41 := ⟨by decide +kernel, rfl⟩
theorem dX2_nearestTo_41 : Dn cX2_nearestTo 41 (.iload 4) 2 43 := ⟨by decide +kernel, rfl⟩
theorem dX2_nearestTo_43 : Dn cX2_nearestTo 43 (.istore_n 2) 1 44 := ⟨by decide +kernel, rfl⟩
theorem dX2_nearestTo_44 : Dn cX2_nearestTo 44 (.iinc 4 1) 3 47 := ⟨by decide +kernel, rfl⟩
theorem dX2_nearestTo_47 : Dj cX2_nearestTo 47 .goto (-38) 3 50 9 := ⟨by decide +kernel, rfl, by decide⟩
theorem dX2_nearestTo_50 : Dn cX2_nearestTo 50 (.iload_n 2) 1 51 := ⟨by decide +kernel, rfl⟩
theorem dX2_nearestTo_51 : Dn cX2_nearestTo 51 (.ireturn) 1 52 := ⟨by decide +kernel, rfl⟩
theorem dX3_init_0 : Dn cX3_init 0 (.aload_n 0) 1 1 := ⟨by decide +kernel, rfl⟩
theorem dX3_init_1 : Dn cX3_init 1 (.invokespecial 3) 3 4 := ⟨by decide +kernel, rfl⟩
theorem dX3_init_4 : Dn cX3_init 4 (.return_) 1 5 := ⟨by decide +kernel, rfl⟩
theorem dX3_find_0 : Dn cX3_find 0 (.aload_n 0) 1 1 := ⟨by decide +kernel, rfl⟩
theorem dX3_find_1 : Dn cX3_find 1 (.aload_n 1) 1 2 := ⟨by decide +kernel, rfl⟩
theorem dX3_find_2 : Dn cX3_find 2 (.iconst 0) 1 3 := ⟨by decide +kernel, rfl⟩
theorem dX3_find_3 : Dn cX3_find 3 (.invokevirtual 9) 3 6 := ⟨by decide +kernel, rfl⟩
theorem dX3_find_6 : Dn cX3_find 6 (.aload_n 2) 1 7 := ⟨by decide +kernel, rfl⟩
theorem dX3_find_7 : Dn cX3_find 7 (.iconst 0) 1 8 := ⟨by decide +kernel, rfl⟩
theorem dX3_find_8 : Dn cX3_find 8 (.invokevirtual 9) 3 11 := ⟨by decide +kernel, rfl⟩
theorem dX3_find_11 : Dn cX3_find 11 (.invokestatic 15) 3 14 := ⟨by decide +kernel, rfl⟩
theorem dX3_find_14 : Dn cX3_find 14 (.putfield 21) 3 17 := ⟨by decide +kernel, rfl⟩
theorem dX3_find_17 : Dn cX3_find 17 (.aload_n 0) 1 18 := ⟨by decide +kernel, rfl⟩
theorem dX3_find_18 : Dn cX3_find 18 (.aload_n 1) 1 19 := ⟨by decide +kernel, rfl⟩
theorem dX3_find_19 : Dn cX3_find 19 (.iconst 1) 1 20 := ⟨by decide +kernel, rfl⟩
theorem dX3_find_20 : Dn cX3_find 20 (.invokevirtual 9) 3 23 := ⟨by decide +kernel, rfl⟩
theorem dX3_find_23 : Dn cX3_find 23 (.aload_n 2) 1 24 := ⟨by decide +kernel, rfl⟩
theorem dX3_find_24 : Dn cX3_find 24 (.iconst 1) 1 25 := ⟨by decide +kernel, rfl⟩
theorem dX3_find_25 : Dn cX3_find 25 (.invokevirtual 9) 3 28 := ⟨by decide +kernel, rfl⟩
theorem dX3_find_28 : Dn cX3_find 28 (.invokestatic 15) 3 31 := ⟨by decide +kernel, rfl⟩
theorem dX3_find_31 : Dn cX3_find 31 (.putfield 27) 3 34 := ⟨by decide +kernel, rfl⟩
theorem dX3_find_34 : Dn cX3_find 34 (.aload_n 0) 1 35 := ⟨by decide +kernel, rfl⟩
theorem dX3_find_35 : Dn cX3_find 35 (.aload_n 1) 1 36 := ⟨by decide +kernel, rfl⟩
theorem dX3_find_36 : Dn cX3_find 36 (.iconst 2) 1 37 := ⟨by decide +kernel, rfl⟩
theorem dX3_find_37 : Dn cX3_find 37 (.invokevirtual 9) 3 40 := ⟨by decide +kernel, rfl⟩
theorem dX3_find_40 : Dn cX3_find 40 (.aload_n 2) 1 41 := ⟨by decide +kernel, rfl⟩
theorem dX3_find_41 : Dn cX3_find 41 (.iconst 2) 1 42 := ⟨by decide +kernel, rfl⟩
theorem dX3_find_42 : Dn cX3_find 42 (.invokevirtual 9) 3 45 := ⟨by decide +kernel, rfl⟩
theorem dX3_find_45 : Dn cX3_find 45 (.invokestatic 30) 3 48 := ⟨by decide +kernel, rfl⟩
theorem dX3_find_48 : Dn cX3_find 48 (.aload_n 0) 1 49 := ⟨by decide +kernel, rfl⟩
theorem dX3_find_49 : Dn cX3_find 49 (.getfield 21) 3 52 := ⟨by decide +kernel, rfl⟩
theorem dX3_find_52 : Dn cX3_find 52 (.isub) 1 53 := ⟨by decide +kernel, rfl⟩
theorem dX3_find_53 : Dn cX3_find 53 (.iconst 1) 1 54 := ⟨by decide +kernel, rfl⟩
theorem dX3_find_54 : Dn cX3_find 54 (.iadd) 1 55 := ⟨by decide +kernel, rfl⟩
theorem dX3_find_55 : Dn cX3_find 55 (.putfield 33) 3 58 := ⟨by decide +kernel, rfl⟩
theorem dX3_find_58 : Dn cX3_find 58 (.aload_n 0) 1 59 := ⟨by decide +kernel, rfl⟩
theorem dX3_find_59 : Dn cX3_find 59 (.aload_n 1) 1 60 := ⟨by decide +kernel, rfl⟩
theorem dX3_find_60 : Dn cX3_find 60 (.iconst 3) 1 61 := ⟨by decide +kernel, rfl⟩
theorem dX3_find_61 : Dn cX3_find 61 (.invokevirtual 9) 3 64 := ⟨by decide +kernel, rfl⟩
theorem dX3_find_64 : Dn cX3_find 64 (.aload_n 2) 1 65 := ⟨by decide +kernel, rfl⟩
theorem dX3_find_65 : Dn cX3_find 65 (.iconst 3) 1 66 := ⟨by decide +kernel, rfl⟩
theorem dX3_find_66 : Dn cX3_find 66 (.invokevirtual 9) 3 69 := ⟨by decide +kernel, rfl⟩
theorem dX3_find_69 : Dn cX3_find 69 (.invokestatic 30) 3 72 := ⟨by decide +kernel, rfl⟩
theorem dX3_find_72 : Dn cX3_find 72 (.aload_n 0) 1 73 := ⟨by decide +kernel, rfl⟩
theorem dX3_find_73 : Dn cX3_find 73 (.getfield 27) 3 76 := ⟨by decide +kernel, rfl⟩
theorem dX3_find_76 : Dn cX3_find 76 (.isub) 1 77 := ⟨by decide +kernel, rfl⟩
theorem dX3_find_77 : Dn cX3_find 77 (.iconst 1) 1 78 := ⟨by decide +kernel, rfl⟩
theorem dX3_find_78 : Dn cX3_find 78 (.iadd) 1 79 := ⟨by decide +kernel, rfl⟩
theorem dX3_find_79 : Dn cX3_find 79 (.putfield 36) 3 82 := ⟨by decide +kernel, rfl⟩
theorem dX3_find_82 : Dn cX3_find 82 (.aload_n 0) 1 83 := ⟨by decide +kernel, rfl⟩
theorem dX3_find_83 : Dn cX3_find 83 (.invokevirtual 39) 3 86 := ⟨by decide +kernel, rfl⟩
theorem dX3_find_86 : Dj cX3_find 86 (fun o => .ifCond .ne o) (23) 3 89 109 := ⟨by decide +kernel, rfl, by decide⟩
theorem dX3_find_89 : Dn cX3_find 89 (.aload_n 0) 1 90 := ⟨by decide +kernel, rfl⟩
theorem dX3_find_90 : Dn cX3_find 90 (.iconst 0) 1 91 := ⟨by decide +kernel, rfl⟩
theorem dX3_find_91 : Dn cX3_find 91 (.putfield 21) 3 94 := ⟨by decide +kernel, rfl⟩
theorem dX3_find_94 : Dn cX3_find 94 (.aload_n 0) 1 95 := ⟨by decide +kernel, rfl⟩
theorem dX3_find_95 : Dn cX3_find 95 (.iconst 0) 1 96 := ⟨by decide +kernel, rfl⟩
theorem dX3_find_96 : Dn cX3_find 96 (.putfield 27) 3 99 := ⟨by decide +kernel, rfl⟩
theorem dX3_find_99 : Dn cX3_find 99 (.aload_n 0) 1 100 := ⟨by decide +kernel, rfl⟩
theorem dX3_find_100 : Dn cX3_find 100 (.iconst 0) 1 101 := ⟨by decide +kernel, rfl⟩
theorem dX3_find_101 : Dn cX3_find 101 (.putfield 33) 3 104 := ⟨by decide +kernel, rfl⟩
theorem dX3_find_104 : Dn cX3_find 104 (.aload_n 0) 1 105 := ⟨by decide +kernel, rfl⟩
theorem dX3_find_105 : Dn cX3_find 105 (.iconst 0) 1 106 := ⟨by decide +kernel, rfl⟩
theorem dX3_find_106 : Dn cX3_find 106 (.putfield 36) 3 109 := ⟨by decide +kernel, rfl⟩
theorem dX3_find_109 : Dn cX3_find 109 (.return_) 1 110 := ⟨by decide +kernel, rfl⟩
theorem dX3_isThere_0 : Dn cX3_isThere 0 (.aload_n 0) 1 1 := ⟨by decide +kernel, rfl⟩
theorem dX3_isThere_1 : Dn cX3_isThere 1 (.getfield 33) 3 4 := ⟨by decide +kernel, rfl⟩
theorem dX3_isThere_4 : Dj cX3_isThere 4 (fun o => .ifCond .le o) (14) 3 7 18 := ⟨by decide +kernel, rfl, by decide⟩
theorem dX3_isThere_7 : Dn cX3_isThere 7 (.aload_n 0) 1 8 := ⟨by decide +kernel, rfl⟩
theorem dX3_isThere_8 : Dn cX3_isThere 8 (.getfield 36) 3 11 := ⟨by decide +kernel, rfl⟩
theorem dX3_isThere_11 : Dj cX3_isThere 11 (fun o => .ifCond .le o) (7) 3 14 18 := ⟨by decide +kernel, rfl, by decide⟩
theorem dX3_isThere_14 : Dn cX3_isThere 14 (.iconst 1) 1 15 := ⟨by decide +kernel, rfl⟩
theorem dX3_isThere_15 : Dj cX3_isThere 15 .goto (4) 3 18 19 := ⟨by decide +kernel, rfl, by decide⟩
theorem dX3_isThere_18 : Dn cX3_isThere 18 (.iconst 0) 1 19 := ⟨by decide +kernel, rfl⟩
theorem dX3_isThere_19 : Dn cX3_isThere 19 (.ireturn) 1 20 := ⟨by decide +kernel, rfl⟩
theorem dX3_compare_0 : Dn cX3_compare 0 (.aload_n 0) 1 1 := ⟨by decide +kernel, rfl⟩
theorem dX3_compare_1 : Dn cX3_compare 1 (.iconst 0) 1 2 := ⟨by decide +kernel, rfl⟩
theorem dX3_compare_2 : Dn cX3_compare 2 (.putfield 43) 3 5 := ⟨by decide +kernel, rfl⟩
theorem dX3_compare_5 : Dn cX3_compare 5 (.aload_n 0) 1 6 := ⟨by decide +kernel, rfl⟩
theorem dX3_compare_6 : Dn cX3_compare 6 (.iconst 0) 1 7 := ⟨by decide +kernel, rfl⟩
theorem dX3_compare_7 : Dn cX3_compare 7 (.putfield 46) 3 10 := ⟨by decide +kernel, rfl⟩
theorem dX3_compare_10 : Dn cX3_compare 10 (.aload_n 0) 1 11 := ⟨by decide +kernel, rfl⟩
theorem dX3_compare_11 : Dn cX3_compare 11 (.iconst 0) 1 12 := ⟨by decide +kernel, rfl⟩
theorem dX3_compare_12 : Dn cX3_compare 12 (.putfield 49) 3 15 := ⟨by decide +kernel, rfl⟩
theorem dX3_compare_15 : Dn cX3_compare 15 (.aload_n 0) 1 16 := ⟨by decide +kernel, rfl⟩
theorem dX3_compare_16 : Dn cX3_compare 16 (.getfield 27) 3 19 := ⟨by decide +kernel, rfl⟩
theorem dX3_compare_19 : Dn cX3_compare 19 (.istore_n 3) 1 20 := ⟨by decide +kernel, rfl⟩
theorem dX3_compare_20 : Dn cX3_compare 20 (.iload_n 3) 1 21 := ⟨by decide +kernel, rfl⟩
theorem dX3_compare_21 : Dn cX3_compare 21 (.aload_n 0) 1 22 := ⟨by decide +kernel, rfl⟩
theorem dX3_compare_22 : Dn cX3_compare 22 (.getfield 27) 3 25 := ⟨by decide +kernel, rfl⟩
theorem dX3_compare_25 : Dn cX3_compare 25 (.aload_n 0) 1 26 := ⟨by decide +kernel, rfl⟩
theorem dX3_compare_26 : Dn cX3_compare 26 (.getfield 36) 3 29 := ⟨by decide +kernel, rfl⟩
theorem dX3_compare_29 : Dn cX3_compare 29 (.iadd) 1 30 := ⟨by decide +kernel, rfl⟩
theorem dX3_compare_30 : Dj cX3_compare 30 (fun o => .if_icmp .ge o) (97) 3 33 127 := ⟨by decide +kernel, rfl, by decide⟩
theorem dX3_compare_33 : Dn cX3_compare 33 (.aload_n 0) 1 34 := ⟨by decide +kernel, rfl⟩
theorem dX3_compare_34 : Dn cX3_compare 34 (.getfield 21) 3 37 := ⟨by decide +kernel, rfl⟩
theorem dX3_compare_37 : Dn cX3_compare 37 (.istore 4) 2 39 := ⟨by decide +kernel, rfl⟩
theorem dX3_compare_39 : Dn cX3_compare 39 (.iload 4) 2 41 := ⟨by decide +kernel, rfl⟩
theorem dX3_compare_41 : Dn cX3_compare 41 (.aload_n 0) 1 42 := ⟨by decide +kernel, rfl⟩
theorem dX3_compare_42 : Dn cX3_compare 42 (.getfield 21) 3 45 := ⟨by decide +kernel, rfl⟩
theorem dX3_compare_45 : Dn cX3_compare 45 (.aload_n 0) 1 46 := ⟨by decide +kernel, rfl⟩
theorem dX3_compare_46 : Dn cX3_compare 46 (.getfield 33) 3 49 := ⟨by decide +kernel, rfl⟩
theorem dX3_compare_49 : Dn cX3_compare 49 (.iadd) 1 50 := ⟨by decide +kernel, rfl⟩
theorem dX3_compare_50 : Dj cX3_compare 50 (fun o => .if_icmp .ge o) (71) 3 53 121 := ⟨by decide +kernel, rfl, by decide⟩
theorem dX3_compare_53 : Dn cX3_compare 53 (.aload_n 1) 1 54 := ⟨by decide +kernel, rfl⟩
theorem dX3_compare_54 : Dn cX3_compare 54 (.iload 4) 2 56 := ⟨by decide +kernel, rfl⟩
theorem dX3_compare_56 : Dn cX3_compare 56 (.iload_n 3) 1 57 := ⟨by decide +kernel, rfl⟩
theorem dX3_compare_57 : Dn cX3_compare 57 (.invokevirtual 52) 3 60 := ⟨by decide +kernel, rfl⟩
theorem dX3_compare_60 : Dn cX3_compare 60 (.istore 5) 2 62 := ⟨by decide +kernel, rfl⟩
theorem dX3_compare_62 : Dn cX3_compare 62 (.aload_n 2) 1 63 := ⟨by decide +kernel, rfl⟩
theorem dX3_compare_63 : Dn cX3_compare 63 (.iload 4) 2 65 := ⟨by decide +kernel, rfl⟩
theorem dX3_compare_65 : Dn cX3_compare 65 (.iload_n 3) 1 66 := ⟨by decide +kernel, rfl⟩
theorem dX3_compare_66 : Dn cX3_compare 66 (.invokevirtual 52) 3 69 := ⟨by decide +kernel, rfl⟩
theorem dX3_compare_69 : Dn cX3_compare 69 (.istore 6) 2 71 := ⟨by decide +kernel, rfl⟩
theorem dX3_compare_71 : Dn cX3_compare 71 (.iload 5) 2 73 := ⟨by decide +kernel, rfl⟩
theorem dX3_compare_73 : Dn cX3_compare 73 (.iconst (-1)) 1 74 := ⟨by decide +kernel, rfl⟩
theorem dX3_compare_74 : Dj cX3_compare 74 (fun o => .if_icmp .eq o) (41) 3 77 115 := ⟨by decide +kernel, rfl, by decide⟩
theorem dX3_compare_77 : Dn cX3_compare 77 (.iload 6) 2 79 := ⟨by decide +kernel, rfl⟩
theorem dX3_compare_79 : Dn cX3_compare 79 (.iconst (-1)) 1 80 := ⟨by decide +kernel, rfl⟩
theorem dX3_compare_80 : Dj cX3_compare 80 (fun o => .if_icmp .eq o) (35) 3 83 115 := ⟨by decide +kernel, rfl, by decide⟩
theorem dX3_compare_83 : Dn cX3_compare 83 (.aload_n 0) 1 84 := ⟨by decide +kernel, rfl⟩
theorem dX3_compare_84 : Dn cX3_compare 84 (.dup) 1 85 := ⟨by decide +kernel, rfl⟩
theorem dX3_compare_85 : Dn cX3_compare 85 (.getfield 43) 3 88 := ⟨by decide +kernel, rfl⟩
theorem dX3_compare_88 : Dn cX3_compare 88 (.iload 5) 2 90 := ⟨by decide +kernel, rfl⟩
theorem dX3_compare_90 : Dn cX3_compare 90 (.iadd) 1 91 := ⟨by decide +kernel, rfl⟩
theorem dX3_compare_91 : Dn cX3_compare 91 (.putfield 43) 3 94 := ⟨by decide +kernel, rfl⟩
theorem dX3_compare_94 : Dn cX3_compare 94 (.aload_n 0) 1 95 := ⟨by decide +kernel, rfl⟩
theorem dX3_compare_95 : Dn cX3_compare 95 (.dup) 1 96 := ⟨by decide +kernel, rfl⟩
theorem dX3_compare_96 : Dn cX3_compare 96 (.getfield 46) 3 99 := ⟨by decide +kernel, rfl⟩
theorem dX3_compare_99 : Dn cX3_compare 99 (.iload 6) 2 101 := ⟨by decide +kernel, rfl⟩
theorem dX3_compare_101 : Dn cX3_compare 101 (.iadd) 1 102 := ⟨by decide +kernel, rfl⟩
theorem dX3_compare_102 : Dn cX3_compare 102 (.putfield 46) 3 105 := ⟨by decide +kernel, rfl⟩
theorem dX3_compare_105 : Dn cX3_compare 105 (.aload_n 0) 1 106 := ⟨by decide +kernel, rfl⟩
theorem dX3_compare_106 : Dn cX3_compare 106 (.dup) 1 107 := ⟨by decide +kernel, rfl⟩
theorem dX3_compare_107 : Dn cX3_compare 107 (.getfield 49) 3 110 := ⟨by decide +kernel, rfl⟩
theorem dX3_compare_110 : Dn cX3_compare 110 (.iconst 1) 1 111 := ⟨by decide +kernel, rfl⟩
theorem dX3_compare_111 : Dn cX3_compare 111 (.iadd) 1 112 := ⟨by decide +kernel, rfl⟩
theorem dX3_compare_112 : Dn cX3_compare 112 (.putfield 49) 3 115 := ⟨by decide +kernel, rfl⟩
theorem dX3_compare_115 : Dn cX3_compare 115 (.iinc 4 1) 3 118 := ⟨by decide +kernel, rfl⟩
theorem dX3_compare_118 : Dj cX3_compare 118 .goto (-79) 3 121 39 := ⟨by decide +kernel, rfl, by decide⟩
theorem dX3_compare_121 : Dn cX3_compare 121 (.iinc 3 1) 3 124 := ⟨by decide +kernel, rfl⟩
theorem dX3_compare_124 : Dj cX3_compare 124 .goto (-104) 3 127 20 := ⟨by decide +kernel, rfl, by decide⟩
theorem dX3_compare_127 : Dn cX3_compare 127 (.return_) 1 128 := ⟨by decide +kernel, rfl⟩
theorem dX7_init_0 : Dn cX7_init 0 (.aload_n 0) 1 1 := ⟨by decide +kernel, rfl⟩
theorem dX7_init_1 : Dn cX7_init 1 (.invokespecial 3) 3 4 := ⟨by decide +kernel, rfl⟩
theorem dX7_init_4 : Dn cX7_init 4 (.return_) 1 5 := ⟨by decide +kernel, rfl⟩
theorem dX7_lightAt_0 : Dn cX7_lightAt 0 (.iload_n 1) 1 1 := ⟨by decide +kernel, rfl⟩
theorem dX7_lightAt_1 : Dn cX7_lightAt 1 (.iconst 3) 1 2 := ⟨by decide +kernel, rfl⟩
theorem dX7_lightAt_2 : Dn cX7_lightAt 2 (.idiv) 1 3 := ⟨by decide +kernel, rfl⟩
theorem dX7_lightAt_3 : Dn cX7_lightAt 3 (.ldc 9) 2 5 := ⟨by decide +kernel, rfl⟩
theorem dX7_lightAt_5 : Dn cX7_lightAt 5 (.imul) 1 6 := ⟨by decide +kernel, rfl⟩
theorem dX7_lightAt_6 : Dn cX7_lightAt 6 (.iload_n 2) 1 7 := ⟨by decide +kernel, rfl⟩
theorem dX7_lightAt_7 : Dn cX7_lightAt 7 (.iconst 3) 1 8 := ⟨by decide +kernel, rfl⟩
theorem dX7_lightAt_8 : Dn cX7_lightAt 8 (.idiv) 1 9 := ⟨by decide +kernel, rfl⟩
theorem dX7_lightAt_9 : Dn cX7_lightAt 9 (.ldc 10) 2 11 := ⟨by decide +kernel, rfl⟩
theorem dX7_lightAt_11 : Dn cX7_lightAt 11 (.imul) 1 12 := ⟨by decide +kernel, rfl⟩
theorem dX7_lightAt_12 : Dn cX7_lightAt 12 (.iadd) 1 13 := ⟨by decide +kernel, rfl⟩
theorem dX7_lightAt_13 : Dn cX7_lightAt 13 (.aload_n 0) 1 14 := ⟨by decide +kernel, rfl⟩
theorem dX7_lightAt_14 : Dn cX7_lightAt 14 (.getfield 11) 3 17 := ⟨by decide +kernel, rfl⟩
theorem dX7_lightAt_17 : Dn cX7_lightAt 17 (.ldc 17) 2 19 := ⟨by decide +kernel, rfl⟩
theorem dX7_lightAt_19 : Dn cX7_lightAt 19 (.imul) 1 20 := ⟨by decide +kernel, rfl⟩
theorem dX7_lightAt_20 : Dn cX7_lightAt 20 (.iadd) 1 21 := ⟨by decide +kernel, rfl⟩
theorem dX7_lightAt_21 : Dn cX7_lightAt 21 (.istore_n 3) 1 22 := ⟨by decide +kernel, rfl⟩
theorem dX7_lightAt_22 : Dn cX7_lightAt 22 (.iload_n 3) 1 23 := ⟨by decide +kernel, rfl⟩
theorem dX7_lightAt_23 : Dn cX7_lightAt 23 (.iload_n 3) 1 24 := ⟨by decide +kernel, rfl⟩
theorem dX7_lightAt_24 : Dn cX7_lightAt 24 (.bipush 15) 2 26 := ⟨by decide +kernel, rfl⟩
theorem dX7_lightAt_26 : Dn cX7_lightAt 26 (.iushr) 1 27 := ⟨by decide +kernel, rfl⟩
theorem dX7_lightAt_27 : Dn cX7_lightAt 27 (.ixor) 1 28 := ⟨by decide +kernel, rfl⟩
theorem dX7_lightAt_28 : Dn cX7_lightAt 28 (.ldc 18) 2 30 := ⟨by decide +kernel, rfl⟩
theorem dX7_lightAt_30 : Dn cX7_lightAt 30 (.imul) 1 31 := ⟨by decide +kernel, rfl⟩
theorem dX7_lightAt_31 : Dn cX7_lightAt 31 (.istore_n 3) 1 32 := ⟨by decide +kernel, rfl⟩
theorem dX7_lightAt_32 : Dn cX7_lightAt 32 (.iload_n 3) 1 33 := ⟨by decide +kernel, rfl⟩
theorem dX7_lightAt_33 : Dn cX7_lightAt 33 (.iload_n 3) 1 34 := ⟨by decide +kernel, rfl⟩
theorem dX7_lightAt_34 : Dn cX7_lightAt 34 (.bipush 15) 2 36 := ⟨by decide +kernel, rfl⟩
theorem dX7_lightAt_36 : Dn cX7_lightAt 36 (.iushr) 1 37 := ⟨by decide +kernel, rfl⟩
theorem dX7_lightAt_37 : Dn cX7_lightAt 37 (.ixor) 1 38 := ⟨by decide +kernel, rfl⟩
theorem dX7_lightAt_38 : Dn cX7_lightAt 38 (.ldc 18) 2 40 := ⟨by decide +kernel, rfl⟩
theorem dX7_lightAt_40 : Dn cX7_lightAt 40 (.imul) 1 41 := ⟨by decide +kernel, rfl⟩
theorem dX7_lightAt_41 : Dn cX7_lightAt 41 (.istore_n 3) 1 42 := ⟨by decide +kernel, rfl⟩
theorem dX7_lightAt_42 : Dn cX7_lightAt 42 (.iload_n 3) 1 43 := ⟨by decide +kernel, rfl⟩
theorem dX7_lightAt_43 : Dn cX7_lightAt 43 (.bipush 16) 2 45 := ⟨by decide +kernel, rfl⟩
theorem dX7_lightAt_45 : Dn cX7_lightAt 45 (.iushr) 1 46 := ⟨by decide +kernel, rfl⟩
theorem dX7_lightAt_46 : Dn cX7_lightAt 46 (.sipush 255) 3 49 := ⟨by decide +kernel, rfl⟩
theorem dX7_lightAt_49 : Dn cX7_lightAt 49 (.iand) 1 50 := ⟨by decide +kernel, rfl⟩
theorem dX7_lightAt_50 : Dn cX7_lightAt 50 (.ireturn) 1 51 := ⟨by decide +kernel, rfl⟩
theorem dX7_shootInto_0 : Dn cX7_shootInto 0 (.iconst 0) 1 1 := ⟨by decide +kernel, rfl⟩
theorem dX7_shootInto_1 : Dn cX7_shootInto 1 (.istore 5) 2 3 := ⟨by decide +kernel, rfl⟩
theorem dX7_shootInto_3 : Dn cX7_shootInto 3 (.iload 5) 2 5 := ⟨by decide +kernel, rfl⟩
theorem dX7_shootInto_5 : Dn cX7_shootInto 5 (.aload_n 1) 1 6 := ⟨by decide +kernel, rfl⟩
theorem dX7_shootInto_6 : Dn cX7_shootInto 6 (.getfield 19) 3 9 := ⟨by decide +kernel, rfl⟩
theorem dX7_shootInto_9 : Dj cX7_shootInto 9 (fun o => .if_icmp .ge o) (59) 3 12 68 := ⟨by decide +kernel, rfl, by decide⟩
theorem dX7_shootInto_12 : Dn cX7_shootInto 12 (.iconst 0) 1 13 := ⟨by decide +kernel, rfl⟩
theorem dX7_shootInto_13 : Dn cX7_shootInto 13 (.istore 6) 2 15 := ⟨by decide +kernel, rfl⟩
theorem dX7_shootInto_15 : Dn cX7_shootInto 15 (.iload 6) 2 17 := ⟨by decide +kernel, rfl⟩
theorem dX7_shootInto_17 : Dn cX7_shootInto 17 (.aload_n 1) 1 18 := ⟨by decide +kernel, rfl⟩
theorem dX7_shootInto_18 : Dn cX7_shootInto 18 (.getfield 24) 3 21 := ⟨by decide +kernel, rfl⟩
theorem dX7_shootInto_21 : Dj cX7_shootInto 21 (fun o => .if_icmp .ge o) (41) 3 24 62 := ⟨by decide +kernel, rfl, by decide⟩
theorem dX7_shootInto_24 : Dn cX7_shootInto 24 (.aload_n 1) 1 25 := ⟨by decide +kernel, rfl⟩
theorem dX7_shootInto_25 : Dn cX7_shootInto 25 (.iload 6) 2 27 := ⟨by decide +kernel, rfl⟩
theorem dX7_shootInto_27 : Dn cX7_shootInto 27 (.iload 5) 2 29 := ⟨by decide +kernel, rfl⟩
theorem dX7_shootInto_29 : Dn cX7_shootInto 29 (.sipush 255) 3 32 := ⟨by decide +kernel, rfl⟩
theorem dX7_shootInto_32 : Dn cX7_shootInto 32 (.iload 4) 2 34 := ⟨by decide +kernel, rfl⟩
theorem dX7_shootInto_34 : Dn cX7_shootInto 34 (.aload_n 0) 1 35 := ⟨by decide +kernel, rfl⟩
theorem dX7_shootInto_35 : Dn cX7_shootInto 35 (.iload_n 2) 1 36 := ⟨by decide +kernel, rfl⟩
theorem dX7_shootInto_36 : Dn cX7_shootInto 36 (.iload 6) 2 38 := ⟨by decide +kernel, rfl⟩
theorem dX7_shootInto_38 : Dn cX7_shootInto 38 (.iadd) 1 39 := ⟨by decide +kernel, rfl⟩
theorem dX7_shootInto_39 : Dn cX7_shootInto 39 (.iload_n 3) 1 40 := ⟨by decide +kernel, rfl⟩
theorem dX7_shootInto_40 : Dn cX7_shootInto 40 (.iload 5) 2 42 := ⟨by decide +kernel, rfl⟩
theorem dX7_shootInto_42 : Dn cX7_shootInto 42 (.iadd) 1 43 := ⟨by decide +kernel, rfl⟩
theorem dX7_shootInto_43 : Dn cX7_shootInto 43 (.invokevirtual 27) 3 46 := ⟨by decide +kernel, rfl⟩
theorem dX7_shootInto_46 : Dn cX7_shootInto 46 (.imul) 1 47 := ⟨by decide +kernel, rfl⟩
theorem dX7_shootInto_47 : Dn cX7_shootInto 47 (.bipush 16) 2 49 := ⟨by decide +kernel, rfl⟩
theorem dX7_shootInto_49 : Dn cX7_shootInto 49 (.idiv) 1 50 := ⟨by decide +kernel, rfl⟩
theorem dX7_shootInto_50 : Dn cX7_shootInto 50 (.invokestatic 31) 3 53 := ⟨by decide +kernel, rfl⟩
theorem dX7_shootInto_53 : Dn cX7_shootInto 53 (.invokevirtual 36) 3 56 := ⟨by decide +kernel, rfl⟩
theorem dX7_shootInto_56 : Dn cX7_shootInto 56 (.iinc 6 1) 3 59 := ⟨by decide +kernel, rfl⟩
theorem dX7_shootInto_59 : Dj cX7_shootInto 59 .goto (-44) 3 62 15 := ⟨by decide +kernel, rfl, by decide⟩
theorem dX7_shootInto_62 : Dn cX7_shootInto 62 (.iinc 5 1) 3 65 := ⟨by decide +kernel, rfl⟩
theorem dX7_shootInto_65 : Dj cX7_shootInto 65 .goto (-62) 3 68 3 := ⟨by decide +kernel, rfl, by decide⟩
theorem dX7_shootInto_68 : Dn cX7_shootInto 68 (.return_) 1 69 := ⟨by decide +kernel, rfl⟩
end
section
theorem dX4_init_0 : Dn cX4_init 0 (.aload_n 0) 1 1 := ⟨by decide +kernel, rfl⟩
theorem dX4_init_1 : Dn cX4_init 1 (.invokespecial 3) 3 4 := ⟨by decide +kernel, rfl⟩
theorem dX4_init_4 : Dn cX4_init 4 (.aload_n 0) 1 5 := ⟨by decide +kernel, rfl⟩
theorem dX4_init_5 : Dn cX4_init 5 (.bipush 16) 2 7 := ⟨by decide +kernel, rfl⟩
theorem dX4_init_7 : Dn cX4_init 7 (.newarray .int) 2 9 := ⟨by decide +kernel, rfl⟩
theorem dX4_init_9 : Dn cX4_init 9 (.putfield 9) 3 12 := ⟨by decide +kernel, rfl⟩
theorem dX4_init_12 : Dn cX4_init 12 (.return_) 1 13 := ⟨by decide +kernel, rfl⟩
theorem dX4_find_0 : Dn cX4_find 0 (.aload_n 0) 1 1 := ⟨by decide +kernel, rfl⟩
theorem dX4_find_1 : Dn cX4_find 1 (.iconst 0) 1 2 := ⟨by decide +kernel, rfl⟩
theorem dX4_find_2 : Dn cX4_find 2 (.putfield 15) 3 5 := ⟨by decide +kernel, rfl⟩
theorem dX4_find_5 : Dn cX4_find 5 (.iconst 0) 1 6 := ⟨by decide +kernel, rfl⟩
theorem dX4_find_6 : Dn cX4_find 6 (.istore 4) 2 8 := ⟨by decide +kernel, rfl⟩
theorem dX4_find_8 : Dn cX4_find 8 (.iload 4) 2 10 := ⟨by decide +kernel, rfl⟩
theorem dX4_find_10 : Dn cX4_find 10 (.aload_n 1) 1 11 := ⟨by decide +kernel, rfl⟩
theorem dX4_find_11 : Dn cX4_find 11 (.getfield 19) 3 14 := ⟨by decide +kernel, rfl⟩
theorem dX4_find_14 : Dj cX4_find 14 (fun o => .if_icmp .ge o) (46) 3 17 60 := ⟨by decide +kernel, rfl, by decide⟩
theorem dX4_find_17 : Dn cX4_find 17 (.aload_n 0) 1 18 := ⟨by decide +kernel, rfl⟩
theorem dX4_find_18 : Dn cX4_find 18 (.getfield 9) 3 21 := ⟨by decide +kernel, rfl⟩
theorem dX4_find_21 : Dn cX4_find 21 (.iload 4) 2 23 := ⟨by decide +kernel, rfl⟩
theorem dX4_find_23 : Dn cX4_find 23 (.aload_n 1) 1 24 := ⟨by decide +kernel, rfl⟩
theorem dX4_find_24 : Dn cX4_find 24 (.iload 4) 2 26 := ⟨by decide +kernel, rfl⟩
theorem dX4_find_26 : Dn cX4_find 26 (.aload_n 2) 1 27 := ⟨by decide +kernel, rfl⟩
theorem dX4_find_27 : Dn cX4_find 27 (.iload_n 3) 1 28 := ⟨by decide +kernel, rfl⟩
theorem dX4_find_28 : Dn cX4_find 28 (.invokestatic 24) 3 31 := ⟨by decide +kernel, rfl⟩
theorem dX4_find_31 : Dn cX4_find 31 (.iastore) 1 32 := ⟨by decide +kernel, rfl⟩
theorem dX4_find_32 : Dn cX4_find 32 (.aload_n 0) 1 33 := ⟨by decide +kernel, rfl⟩
theorem dX4_find_33 : Dn cX4_find 33 (.getfield 9) 3 36 := ⟨by decide +kernel, rfl⟩
theorem dX4_find_36 : Dn cX4_find 36 (.iload 4) 2 38 := ⟨by decide +kernel, rfl⟩
theorem dX4_find_38 : Dn cX4_find 38 (.iaload) 1 39 := ⟨by decide +kernel, rfl⟩
theorem dX4_find_39 : Dn cX4_find 39 (.bipush (-6)) 2 41 := ⟨by decide +kernel, rfl⟩
theorem dX4_find_41 : Dj cX4_find 41 (fun o => .if_icmp .eq o) (13) 3 44 54 := ⟨by decide +kernel, rfl, by decide⟩
theorem dX4_find_44 : Dn cX4_find 44 (.aload_n 0) 1 45 := ⟨by decide +kernel, rfl⟩
theorem dX4_find_45 : Dn cX4_find 45 (.dup) 1 46 := ⟨by decide +kernel, rfl⟩
theorem dX4_find_46 : Dn cX4_find 46 (.getfield 15) 3 49 := ⟨by decide +kernel, rfl⟩
theorem dX4_find_49 : Dn cX4_find 49 (.iconst 1) 1 50 := ⟨by decide +kernel, rfl⟩
theorem dX4_find_50 : Dn cX4_find 50 (.iadd) 1 51 := ⟨by decide +kernel, rfl⟩
theorem dX4_find_51 : Dn cX4_find 51 (.putfield 15) 3 54 := ⟨by decide +kernel, rfl⟩
theorem dX4_find_54 : Dn cX4_find 54 (.iinc 4 1) 3 57 := ⟨by decide +kernel, rfl⟩
theorem dX4_find_57 : Dj cX4_find 57 .goto (-49) 3 60 8 := ⟨by decide +kernel, rfl, by decide⟩
theorem dX4_find_60 : Dn cX4_find 60 (.aload_n 0) 1 61 := ⟨by decide +kernel, rfl⟩
theorem dX4_find_61 : Dn cX4_find 61 (.iconst 0) 1 62 := ⟨by decide +kernel, rfl⟩
theorem dX4_find_62 : Dn cX4_find 62 (.putfield 28) 3 65 := ⟨by decide +kernel, rfl⟩
theorem dX4_find_65 : Dn cX4_find 65 (.iconst 0) 1 66 := ⟨by decide +kernel, rfl⟩
theorem dX4_find_66 : Dn cX4_find 66 (.istore 4) 2 68 := ⟨by decide +kernel, rfl⟩
theorem dX4_find_68 : Dn cX4_find 68 (.iload 4) 2 70 := ⟨by decide +kernel, rfl⟩
theorem dX4_find_70 : Dn cX4_find 70 (.aload_n 1) 1 71 := ⟨by decide +kernel, rfl⟩
theorem dX4_find_71 : Dn cX4_find 71 (.getfield 19) 3 74 := ⟨by decide +kernel, rfl⟩
theorem dX4_find_74 : Dj cX4_find 74 (fun o => .if_icmp .ge o) (43) 3 77 117 := ⟨by decide +kernel, rfl, by decide⟩
theorem dX4_find_77 : Dn cX4_find 77 (.aload_n 0) 1 78 := ⟨by decide +kernel, rfl⟩
theorem dX4_find_78 : Dn cX4_find 78 (.getfield 9) 3 81 := ⟨by decide +kernel, rfl⟩
theorem dX4_find_81 : Dn cX4_find 81 (.iload 4) 2 83 := ⟨by decide +kernel, rfl⟩
theorem dX4_find_83 : Dn cX4_find 83 (.iaload) 1 84 := ⟨by decide +kernel, rfl⟩
theorem dX4_find_84 : Dn cX4_find 84 (.bipush (-6)) 2 86 := ⟨by decide +kernel, rfl⟩
theorem dX4_find_86 : Dj cX4_find 86 (fun o => .if_icmp .eq o) (25) 3 89 111 := ⟨by decide +kernel, rfl, by decide⟩
theorem dX4_find_89 : Dn cX4_find 89 (.aload_n 0) 1 90 := ⟨by decide +kernel, rfl⟩
theorem dX4_find_90 : Dn cX4_find 90 (.aload_n 1) 1 91 := ⟨by decide +kernel, rfl⟩
theorem dX4_find_91 : Dn cX4_find 91 (.aload_n 2) 1 92 := ⟨by decide +kernel, rfl⟩
theorem dX4_find_92 : Dn cX4_find 92 (.aload_n 0) 1 93 := ⟨by decide +kernel, rfl⟩
theorem dX4_find_93 : Dn cX4_find 93 (.aload_n 1) 1 94 := ⟨by decide +kernel, rfl⟩
theorem dX4_find_94 : Dn cX4_find 94 (.iload 4) 2 96 := ⟨by decide +kernel, rfl⟩
theorem dX4_find_96 : Dn cX4_find 96 (.aload_n 2) 1 97 := ⟨by decide +kernel, rfl⟩
theorem dX4_find_97 : Dn cX4_find 97 (.invokevirtual 31) 3 100 := ⟨by decide +kernel, rfl⟩
theorem dX4_find_100 : Dn cX4_find 100 (.aload_n 0) 1 101 := ⟨by decide +kernel, rfl⟩
theorem dX4_find_101 : Dn cX4_find 101 (.aload_n 1) 1 102 := ⟨by decide +kernel, rfl⟩
theorem dX4_find_102 : Dn cX4_find 102 (.iload 4) 2 104 := ⟨by decide +kernel, rfl⟩
theorem dX4_find_104 : Dn cX4_find 104 (.aload_n 2) 1 105 := ⟨by decide +kernel, rfl⟩
theorem dX4_find_105 : Dn cX4_find 105 (.invokevirtual 35) 3 108 := ⟨by decide +kernel, rfl⟩
theorem dX4_find_108 : Dn cX4_find 108 (.invokevirtual 38) 3 111 := ⟨by decide +kernel, rfl⟩
theorem dX4_find_111 : Dn cX4_find 111 (.iinc 4 1) 3 114 := ⟨by decide +kernel, rfl⟩
theorem dX4_find_114 : Dj cX4_find 114 .goto (-46) 3 117 68 := ⟨by decide +kernel, rfl, by decide⟩
theorem dX4_find_117 : Dn cX4_find 117 (.return_) 1 118 := ⟨by decide +kernel, rfl⟩
theorem dX4_partnerOf_0 : Dn cX4_partnerOf 0 (.aload_n 2) 1 1 := ⟨by decide +kernel, rfl⟩
theorem dX4_partnerOf_1 : Dn cX4_partnerOf 1 (.aload_n 0) 1 2 := ⟨by decide +kernel, rfl⟩
theorem dX4_partnerOf_2 : Dn cX4_partnerOf 2 (.getfield 42) 3 5 := ⟨by decide +kernel, rfl⟩
theorem dX4_partnerOf_5 : Dn cX4_partnerOf 5 (.iload_n 1) 1 6 := ⟨by decide +kernel, rfl⟩
theorem dX4_partnerOf_6 : Dn cX4_partnerOf 6 (.iaload) 1 7 := ⟨by decide +kernel, rfl⟩
theorem dX4_partnerOf_7 : Dn cX4_partnerOf 7 (.invokevirtual 45) 3 10 := ⟨by decide +kernel, rfl⟩
theorem dX4_partnerOf_10 : Dn cX4_partnerOf 10 (.istore 4) 2 12 := ⟨by decide +kernel, rfl⟩
theorem dX4_partnerOf_12 : Dn cX4_partnerOf 12 (.iload 4) 2 14 := ⟨by decide +kernel, rfl⟩
theorem dX4_partnerOf_14 : Dn cX4_partnerOf 14 (.bipush (-6)) 2 16 := ⟨by decide +kernel, rfl⟩
theorem dX4_partnerOf_16 : Dj cX4_partnerOf 16 (fun o => .if_icmp .eq o) (18) 3 19 34 := ⟨by decide +kernel, rfl, by decide⟩
theorem dX4_partnerOf_19 : Dn cX4_partnerOf 19 (.aload_n 0) 1 20 := ⟨by decide +kernel, rfl⟩
theorem dX4_partnerOf_20 : Dn cX4_partnerOf 20 (.aload_n 2) 1 21 := ⟨by decide +kernel, rfl⟩
theorem dX4_partnerOf_21 : Dn cX4_partnerOf 21 (.getfield 42) 3 24 := ⟨by decide +kernel, rfl⟩
theorem dX4_partnerOf_24 : Dn cX4_partnerOf 24 (.iload 4) 2 26 := ⟨by decide +kernel, rfl⟩
theorem dX4_partnerOf_26 : Dn cX4_partnerOf 26 (.iaload) 1 27 := ⟨by decide +kernel, rfl⟩
theorem dX4_partnerOf_27 : Dn cX4_partnerOf 27 (.invokevirtual 45) 3 30 := ⟨by decide +kernel, rfl⟩
theorem dX4_partnerOf_30 : Dn cX4_partnerOf 30 (.iload_n 1) 1 31 := ⟨by decide +kernel, rfl⟩
theorem dX4_partnerOf_31 : Dj cX4_partnerOf 31 (fun o => .if_icmp .eq o) (6) 3 34 37 := ⟨by decide +kernel, rfl, by decide⟩
theorem dX4_partnerOf_34 : Dn cX4_partnerOf 34 (.bipush (-6)) 2 36 := ⟨by decide +kernel, rfl⟩
theorem dX4_partnerOf_36 : Dn cX4_partnerOf 36 (.ireturn) 1 37 := ⟨by decide +kernel, rfl⟩
theorem dX4_partnerOf_37 : Dn cX4_partnerOf 37 (.aload_n 0) 1 38 := ⟨by decide +kernel, rfl⟩
theorem dX4_partnerOf_38 : Dn cX4_partnerOf 38 (.getfield 42) 3 41 := ⟨by decide +kernel, rfl⟩
theorem dX4_partnerOf_41 : Dn cX4_partnerOf 41 (.iload_n 1) 1 42 := ⟨by decide +kernel, rfl⟩
theorem dX4_partnerOf_42 : Dn cX4_partnerOf 42 (.iaload) 1 43 := ⟨by decide +kernel, rfl⟩
theorem dX4_partnerOf_43 : Dn cX4_partnerOf 43 (.aload_n 2) 1 44 := ⟨by decide +kernel, rfl⟩
theorem dX4_partnerOf_44 : Dn cX4_partnerOf 44 (.getfield 42) 3 47 := ⟨by decide +kernel, rfl⟩
theorem dX4_partnerOf_47 : Dn cX4_partnerOf 47 (.iload 4) 2 49 := ⟨by decide +kernel, rfl⟩
theorem dX4_partnerOf_49 : Dn cX4_partnerOf 49 (.iaload) 1 50 := ⟨by decide +kernel, rfl⟩
theorem dX4_partnerOf_50 : Dn cX4_partnerOf 50 (.ixor) 1 51 := ⟨by decide +kernel, rfl⟩
theorem dX4_partnerOf_51 : Dn cX4_partnerOf 51 (.invokestatic 49) 3 54 := ⟨by decide +kernel, rfl⟩
theorem dX4_partnerOf_54 : Dn cX4_partnerOf 54 (.iload_n 3) 1 55 := ⟨by decide +kernel, rfl⟩
theorem dX4_partnerOf_55 : Dj cX4_partnerOf 55 (fun o => .if_icmp .gt o) (8) 3 58 63 := ⟨by decide +kernel, rfl, by decide⟩
theorem dX4_partnerOf_58 : Dn cX4_partnerOf 58 (.iload 4) 2 60 := ⟨by decide +kernel, rfl⟩
theorem dX4_partnerOf_60 : Dj cX4_partnerOf 60 .goto (5) 3 63 65 := ⟨by decide +kernel, rfl, by decide⟩
theorem dX4_partnerOf_63 : Dn cX4_partnerOf 63 (.bipush (-6)) 2 65 := ⟨by decide +kernel, rfl⟩
theorem dX4_partnerOf_65 : Dn cX4_partnerOf 65 (.ireturn) 1 66 := ⟨by decide +kernel, rfl⟩
theorem dX4_shiftX_0 : Dn cX4_shiftX 0 (.aload_n 1) 1 1 := ⟨by decide +kernel, rfl⟩
theorem dX4_shiftX_1 : Dn cX4_shiftX 1 (.getfield 54) 3 4 := ⟨by decide +kernel, rfl⟩
theorem dX4_shiftX_4 : Dn cX4_shiftX 4 (.iload_n 2) 1 5 := ⟨by decide +kernel, rfl⟩
theorem dX4_shiftX_5 : Dn cX4_shiftX 5 (.iaload) 1 6 := ⟨by decide +kernel, rfl⟩
theorem dX4_shiftX_6 : Dn cX4_shiftX 6 (.aload_n 3) 1 7 := ⟨by decide +kernel, rfl⟩
theorem dX4_shiftX_7 : Dn cX4_shiftX 7 (.getfield 54) 3 10 := ⟨by decide +kernel, rfl⟩
theorem dX4_shiftX_10 : Dn cX4_shiftX 10 (.aload_n 0) 1 11 := ⟨by decide +kernel, rfl⟩
theorem dX4_shiftX_11 : Dn cX4_shiftX 11 (.getfield 9) 3 14 := ⟨by decide +kernel, rfl⟩
theorem dX4_shiftX_14 : Dn cX4_shiftX 14 (.iload_n 2) 1 15 := ⟨by decide +kernel, rfl⟩
theorem dX4_shiftX_15 : Dn cX4_shiftX 15 (.iaload) 1 16 := ⟨by decide +kernel, rfl⟩
theorem dX4_shiftX_16 : Dn cX4_shiftX 16 (.iaload) 1 17 := ⟨by decide +kernel, rfl⟩
theorem dX4_shiftX_17 : Dn cX4_shiftX 17 (.isub) 1 18 := ⟨by decide +kernel, rfl⟩
theorem dX4_shiftX_18 : Dn cX4_shiftX 18 (.ireturn) 1 19 := ⟨by decide +kernel, rfl⟩
theorem dX4_shiftY_0 : Dn cX4_shiftY 0 (.aload_n 1) 1 1 := ⟨by decide +kernel, rfl⟩
theorem dX4_shiftY_1 : Dn cX4_shiftY 1 (.getfield 57) 3 4 := ⟨by decide +kernel, rfl⟩
theorem dX4_shiftY_4 : Dn cX4_shiftY 4 (.iload_n 2) 1 5 := ⟨by decide +kernel, rfl⟩
theorem dX4_shiftY_5 : Dn cX4_shiftY 5 (.iaload) 1 6 := ⟨by decide +kernel, rfl⟩
theorem dX4_shiftY_6 : Dn cX4_shiftY 6 (.aload_n 3) 1 7 := ⟨by decide +kernel, rfl⟩
theorem dX4_shiftY_7 : Dn cX4_shiftY 7 (.getfield 57) 3 10 := ⟨by decide +kernel, rfl⟩
theorem dX4_shiftY_10 : Dn cX4_shiftY 10 (.aload_n 0) 1 11 := ⟨by decide +kernel, rfl⟩
theorem dX4_shiftY_11 : Dn cX4_shiftY 11 (.getfield 9) 3 14 := ⟨by decide +kernel, rfl⟩
theorem dX4_shiftY_14 : Dn cX4_shiftY 14 (.iload_n 2) 1 15 := ⟨by decide +kernel, rfl⟩
theorem dX4_shiftY_15 : Dn cX4_shiftY 15 (.iaload) 1 16 := ⟨by decide +kernel, rfl⟩
theorem dX4_shiftY_16 : Dn cX4_shiftY 16 (.iaload) 1 17 := ⟨by decide +kernel, rfl⟩
theorem dX4_shiftY_17 : Dn cX4_shiftY 17 (.isub) 1 18 := ⟨by decide +kernel, rfl⟩
theorem dX4_shiftY_18 : Dn cX4_shiftY 18 (.ireturn) 1 19 := ⟨by decide +kernel, rfl⟩
theorem dX4_propose_0 : Dn cX4_propose 0 (.iconst 0) 1 1 := ⟨by decide +kernel, rfl⟩
theorem dX4_propose_1 : Dn cX4_propose 1 (.istore 5) 2 3 := ⟨by decide +kernel, rfl⟩
theorem dX4_propose_3 : Dn cX4_propose 3 (.iconst 0) 1 4 := ⟨by decide +kernel, rfl⟩
theorem dX4_propose_4 : Dn cX4_propose 4 (.istore 6) 2 6 := ⟨by decide +kernel, rfl⟩
theorem dX4_propose_6 : Dn cX4_propose 6 (.iload 6) 2 8 := ⟨by decide +kernel, rfl⟩
theorem dX4_propose_8 : Dn cX4_propose 8 (.aload_n 1) 1 9 := ⟨by decide +kernel, rfl⟩
theorem dX4_propose_9 : Dn cX4_propose 9 (.getfield 19) 3 12 := ⟨by decide +kernel, rfl⟩
theorem dX4_propose_12 : Dj cX4_propose 12 (fun o => .if_icmp .ge o) (49) 3 15 61 := ⟨by decide +kernel, rfl, by decide⟩
theorem dX4_propose_15 : Dn cX4_propose 15 (.aload_n 0) 1 16 := ⟨by decide +kernel, rfl⟩
theorem dX4_propose_16 : Dn cX4_propose 16 (.getfield 9) 3 19 := ⟨by decide +kernel, rfl⟩
theorem dX4_propose_19 : Dn cX4_propose 19 (.iload 6) 2 21 := ⟨by decide +kernel, rfl⟩
theorem dX4_propose_21 : Dn cX4_propose 21 (.iaload) 1 22 := ⟨by decide +kernel, rfl⟩
theorem dX4_propose_22 : Dn cX4_propose 22 (.bipush (-6)) 2 24 := ⟨by decide +kernel, rfl⟩
theorem dX4_propose_24 : Dj cX4_propose 24 (fun o => .if_icmp .eq o) (31) 3 27 55 := ⟨by decide +kernel, rfl, by decide⟩
theorem dX4_propose_27 : Dn cX4_propose 27 (.aload_n 0) 1 28 := ⟨by decide +kernel, rfl⟩
theorem dX4_propose_28 : Dn cX4_propose 28 (.aload_n 1) 1 29 := ⟨by decide +kernel, rfl⟩
theorem dX4_propose_29 : Dn cX4_propose 29 (.iload 6) 2 31 := ⟨by decide +kernel, rfl⟩
theorem dX4_propose_31 : Dn cX4_propose 31 (.aload_n 2) 1 32 := ⟨by decide +kernel, rfl⟩
theorem dX4_propose_32 : Dn cX4_propose 32 (.invokevirtual 31) 3 35 := ⟨by decide +kernel, rfl⟩
theorem dX4_propose_35 : Dn cX4_propose 35 (.iload_n 3) 1 36 := ⟨by decide +kernel, rfl⟩
theorem dX4_propose_36 : Dj cX4_propose 36 (fun o => .if_icmp .ne o) (19) 3 39 55 := ⟨by decide +kernel, rfl, by decide⟩
theorem dX4_propose_39 : Dn cX4_propose 39 (.aload_n 0) 1 40 := ⟨by decide +kernel, rfl⟩
theorem dX4_propose_40 : Dn cX4_propose 40 (.aload_n 1) 1 41 := ⟨by decide +kernel, rfl⟩
theorem dX4_propose_41 : Dn cX4_propose 41 (.iload 6) 2 43 := ⟨by decide +kernel, rfl⟩
theorem dX4_propose_43 : Dn cX4_propose 43 (.aload_n 2) 1 44 := ⟨by decide +kernel, rfl⟩
theorem dX4_propose_44 : Dn cX4_propose 44 (.invokevirtual 35) 3 47 := ⟨by decide +kernel, rfl⟩
theorem dX4_propose_47 : Dn cX4_propose 47 (.iload 4) 2 49 := ⟨by decide +kernel, rfl⟩
theorem dX4_propose_49 : Dj cX4_propose 49 (fun o => .if_icmp .ne o) (6) 3 52 55 := ⟨by decide +kernel, rfl, by decide⟩
theorem dX4_propose_52 : Dn cX4_propose 52 (.iinc 5 1) 3 55 := ⟨by decide +kernel, rfl⟩
theorem dX4_propose_55 : Dn cX4_propose 55 (.iinc 6 1) 3 58 := ⟨by decide +kernel, rfl⟩
theorem dX4_propose_58 : Dj cX4_propose 58 .goto (-52) 3 61 6 := ⟨by decide +kernel, rfl, by decide⟩
theorem dX4_propose_61 : Dn cX4_propose 61 (.iload_n 3) 1 62 := ⟨by decide +kernel, rfl⟩
theorem dX4_propose_62 : Dn cX4_propose 62 (.aload_n 0) 1 63 := ⟨by decide +kernel, rfl⟩
theorem dX4_propose_63 : Dn cX4_propose 63 (.getfield 60) 3 66 := ⟨by decide +kernel, rfl⟩
theorem dX4_propose_66 : Dj cX4_propose 66 (fun o => .if_icmp .lt o) (20) 3 69 86 := ⟨by decide +kernel, rfl, by decide⟩
theorem dX4_propose_69 : Dn cX4_propose 69 (.iload_n 3) 1 70 := ⟨by decide +kernel, rfl⟩
theorem dX4_propose_70 : Dn cX4_propose 70 (.aload_n 0) 1 71 := ⟨by decide +kernel, rfl⟩
theorem dX4_propose_71 : Dn cX4_propose 71 (.getfield 60) 3 74 := ⟨by decide +kernel, rfl⟩
theorem dX4_propose_74 : Dj cX4_propose 74 (fun o => .if_icmp .ne o) (16) 3 77 90 := ⟨by decide +kernel, rfl, by decide⟩
theorem dX4_propose_77 : Dn cX4_propose 77 (.iload 4) 2 79 := ⟨by decide +kernel, rfl⟩
theorem dX4_propose_79 : Dn cX4_propose 79 (.aload_n 0) 1 80 := ⟨by decide +kernel, rfl⟩
theorem dX4_propose_80 : Dn cX4_propose 80 (.getfield 63) 3 83 := ⟨by decide +kernel, rfl⟩
theorem dX4_propose_83 : Dj cX4_propose 83 (fun o => .if_icmp .ge o) (7) 3 86 90 := ⟨by decide +kernel, rfl, by decide⟩
theorem dX4_propose_86 : Dn cX4_propose 86 (.iconst 1) 1 87 := ⟨by decide +kernel, rfl⟩
theorem dX4_propose_87 : Dj cX4_propose 87 .goto (4) 3 90 91 := ⟨by decide +kernel, rfl, by decide⟩
theorem dX4_propose_90 : Dn cX4_propose 90 (.iconst 0) 1 91 := ⟨by decide +kernel, rfl⟩
theorem dX4_propose_91 : Dn cX4_propose 91 (.istore 6) 2 93 := ⟨by decide +kernel, rfl⟩
theorem dX4_propose_93 : Dn cX4_propose 93 (.iload 5) 2 95 := ⟨by decide +kernel, rfl⟩
theorem dX4_propose_95 : Dn cX4_propose 95 (.iconst 2) 1 96 := ⟨by decide +kernel, rfl⟩
theorem dX4_propose_96 : Dj cX4_propose 96 (fun o => .if_icmp .lt o) (43) 3 99 139 := ⟨by decide +kernel, rfl, by decide⟩
theorem dX4_propose_99 : Dn cX4_propose 99 (.iload 5) 2 101 := ⟨by decide +kernel, rfl⟩
theorem dX4_propose_101 : Dn cX4_propose 101 (.aload_n 0) 1 102 := ⟨by decide +kernel, rfl⟩
theorem dX4_propose_102 : Dn cX4_propose 102 (.getfield 28) 3 105 := ⟨by decide +kernel, rfl⟩
theorem dX4_propose_105 : Dj cX4_propose 105 (fun o => .if_icmp .gt o) (17) 3 108 122 := ⟨by decide +kernel, rfl, by decide⟩
theorem dX4_propose_108 : Dn cX4_propose 108 (.iload 5) 2 110 := ⟨by decide +kernel, rfl⟩
theorem dX4_propose_110 : Dn cX4_propose 110 (.aload_n 0) 1 111 := ⟨by decide +kernel, rfl⟩
theorem dX4_propose_111 : Dn cX4_propose 111 (.getfield 28) 3 114 := ⟨by decide +kernel, rfl⟩
theorem dX4_propose_114 : Dj cX4_propose 114 (fun o => .if_icmp .ne o) (25) 3 117 139 := ⟨by decide +kernel, rfl, by decide⟩
theorem dX4_propose_117 : Dn cX4_propose 117 (.iload 6) 2 119 := ⟨by decide +kernel, rfl⟩
theorem dX4_propose_119 : Dj cX4_propose 119 (fun o => .ifCond .eq o) (20) 3 122 139 := ⟨by decide +kernel, rfl, by decide⟩
theorem dX4_propose_122 : Dn cX4_propose 122 (.aload_n 0) 1 123 := ⟨by decide +kernel, rfl⟩
theorem dX4_propose_123 : Dn cX4_propose 123 (.iload 5) 2 125 := ⟨by decide +kernel, rfl⟩
theorem dX4_propose_125 : Dn cX4_propose 125 (.putfield 28) 3 128 := ⟨by decide +kernel, rfl⟩
theorem dX4_propose_128 : Dn cX4_propose 128 (.aload_n 0) 1 129 := ⟨by decide +kernel, rfl⟩
theorem dX4_propose_129 : Dn cX4_propose 129 (.iload_n 3) 1 130 := ⟨by decide +kernel, rfl⟩
theorem dX4_propose_130 : Dn cX4_propose 130 (.putfield 60) 3 133 := ⟨by decide +kernel, rfl⟩
theorem dX4_propose_133 : Dn cX4_propose 133 (.aload_n 0) 1 134 := ⟨by decide +kernel, rfl⟩
theorem dX4_propose_134 : Dn cX4_propose 134 (.iload 4) 2 136 := ⟨by decide +kernel, rfl⟩
theorem dX4_propose_136 : Dn cX4_propose 136 (.putfield 63) 3 139 := ⟨by decide +kernel, rfl⟩
theorem dX4_propose_139 : Dn cX4_propose 139 (.return_) 1 140 := ⟨by decide +kernel, rfl⟩
theorem dX5_init_0 : Dn cX5_init 0 (.aload_n 0) 1 1 := ⟨by decide +kernel, rfl⟩
theorem dX5_init_1 : Dn cX5_init 1 (.invokespecial 3) 3 4 := ⟨by decide +kernel, rfl⟩
theorem dX5_init_4 : Dn cX5_init 4 (.aload_n 0) 1 5 := ⟨by decide +kernel, rfl⟩
theorem dX5_init_5 : Dn cX5_init 5 (.new 9) 3 8 := ⟨by decide +kernel, rfl⟩
theorem dX5_init_8 : Dn cX5_init 8 (.dup) 1 9 := ⟨by decide +kernel, rfl⟩
theorem dX5_init_9 : Dn cX5_init 9 (.invokespecial 11) 3 12 := ⟨by decide +kernel, rfl⟩
theorem dX5_init_12 : Dn cX5_init 12 (.putfield 12) 3 15 := ⟨by decide +kernel, rfl⟩
theorem dX5_init_15 : Dn cX5_init 15 (.aload_n 0) 1 16 := ⟨by decide +kernel, rfl⟩
theorem dX5_init_16 : Dn cX5_init 16 (.new 18) 3 19 := ⟨by decide +kernel, rfl⟩
theorem dX5_init_19 : Dn cX5_init 19 (.dup) 1 20 := ⟨by decide +kernel, rfl⟩
theorem dX5_init_20 : Dn cX5_init 20 (.invokespecial 20) 3 23 := ⟨by decide +kernel, rfl⟩
theorem dX5_init_23 : Dn cX5_init 23 (.putfield 21) 3 26 := ⟨by decide +kernel, rfl⟩
theorem dX5_init_26 : Dn cX5_init 26 (.aload_n 0) 1 27 := ⟨by decide +kernel, rfl⟩
theorem dX5_init_27 : Dn cX5_init 27 (.bipush (-6)) 2 29 := ⟨by decide +kernel, rfl⟩
theorem dX5_init_29 : Dn cX5_init 29 (.putfield 25) 3 32 := ⟨by decide +kernel, rfl⟩
theorem dX5_init_32 : Dn cX5_init 32 (.return_) 1 33 := ⟨by decide +kernel, rfl⟩
theorem dX5_isJoined_0 : Dn cX5_isJoined 0 (.aload_n 0) 1 1 := ⟨by decide +kernel, rfl⟩
theorem dX5_isJoined_1 : Dn cX5_isJoined 1 (.getfield 25) 3 4 := ⟨by decide +kernel, rfl⟩
theorem dX5_isJoined_4 : Dn cX5_isJoined 4 (.bipush (-6)) 2 6 := ⟨by decide +kernel, rfl⟩
theorem dX5_isJoined_6 : Dj cX5_isJoined 6 (fun o => .if_icmp .eq o) (7) 3 9 13 := ⟨by decide +kernel, rfl, by decide⟩
theorem dX5_isJoined_9 : Dn cX5_isJoined 9 (.iconst 1) 1 10 := ⟨by decide +kernel, rfl⟩
theorem dX5_isJoined_10 : Dj cX5_isJoined 10 .goto (4) 3 13 14 := ⟨by decide +kernel, rfl, by decide⟩
theorem dX5_isJoined_13 : Dn cX5_isJoined 13 (.iconst 0) 1 14 := ⟨by decide +kernel, rfl⟩
theorem dX5_isJoined_14 : Dn cX5_isJoined 14 (.ireturn) 1 15 := ⟨by decide +kernel, rfl⟩
theorem dX5_dotAt_0 : Dn cX5_dotAt 0 (.aload_n 0) 1 1 := ⟨by decide +kernel, rfl⟩
theorem dX5_dotAt_1 : Dn cX5_dotAt 1 (.getfield 12) 3 4 := ⟨by decide +kernel, rfl⟩
theorem dX5_dotAt_4 : Dn cX5_dotAt 4 (.iload_n 1) 1 5 := ⟨by decide +kernel, rfl⟩
theorem dX5_dotAt_5 : Dn cX5_dotAt 5 (.aload_n 0) 1 6 := ⟨by decide +kernel, rfl⟩
theorem dX5_dotAt_6 : Dn cX5_dotAt 6 (.getfield 29) 3 9 := ⟨by decide +kernel, rfl⟩
theorem dX5_dotAt_9 : Dn cX5_dotAt 9 (.isub) 1 10 := ⟨by decide +kernel, rfl⟩
theorem dX5_dotAt_10 : Dn cX5_dotAt 10 (.iload_n 2) 1 11 := ⟨by decide +kernel, rfl⟩
theorem dX5_dotAt_11 : Dn cX5_dotAt 11 (.aload_n 0) 1 12 := ⟨by decide +kernel, rfl⟩
theorem dX5_dotAt_12 : Dn cX5_dotAt 12 (.getfield 32) 3 15 := ⟨by decide +kernel, rfl⟩
theorem dX5_dotAt_15 : Dn cX5_dotAt 15 (.isub) 1 16 := ⟨by decide +kernel, rfl⟩
theorem dX5_dotAt_16 : Dn cX5_dotAt 16 (.invokevirtual 35) 3 19 := ⟨by decide +kernel, rfl⟩
theorem dX5_dotAt_19 : Dn cX5_dotAt 19 (.ireturn) 1 20 := ⟨by decide +kernel, rfl⟩
theorem dX5_edge_0 : Dn cX5_edge 0 (.iload_n 1) 1 1 := ⟨by decide +kernel, rfl⟩
theorem dX5_edge_1 : Dn cX5_edge 1 (.tableswitch 52 0 2 #[27, 32, 37]) 27 28 := ⟨by decide +kernel, rfl⟩
theorem dX5_edge_28 : Dn cX5_edge 28 (.aload_n 0) 1 29 := ⟨by decide +kernel, rfl⟩
theorem dX5_edge_29 : Dn cX5_edge 29 (.getfield 29) 3 32 := ⟨by decide +kernel, rfl⟩
theorem dX5_edge_32 : Dn cX5_edge 32 (.ireturn) 1 33 := ⟨by decide +kernel, rfl⟩
theorem dX5_edge_33 : Dn cX5_edge 33 (.aload_n 0) 1 34 := ⟨by decide +kernel, rfl⟩
theorem dX5_edge_34 : Dn cX5_edge 34 (.getfield 32) 3 37 := ⟨by decide +kernel, rfl⟩
theorem dX5_edge_37 : Dn cX5_edge 37 (.ireturn) 1 38 := ⟨by decide +kernel, rfl⟩
theorem dX5_edge_38 : Dn cX5_edge 38 (.aload_n 0) 1 39 := ⟨by decide +kernel, rfl⟩
theorem dX5_edge_39 : Dn cX5_edge 39 (.getfield 29) 3 42 := ⟨by decide +kernel, rfl⟩
theorem dX5_edge_42 : Dn cX5_edge 42 (.aload_n 0) 1 43 := ⟨by decide +kernel, rfl⟩
theorem dX5_edge_43 : Dn cX5_edge 43 (.getfield 12) 3 46 := ⟨by decide +kernel, rfl⟩
theorem dX5_edge_46 : Dn cX5_edge 46 (.getfield 39) 3 49 := ⟨by decide +kernel, rfl⟩
theorem dX5_edge_49 : Dn cX5_edge 49 (.iadd) 1 50 := ⟨by decide +kernel, rfl⟩
theorem dX5_edge_50 : Dn cX5_edge 50 (.iconst 1) 1 51 := ⟨by decide +kernel, rfl⟩
theorem dX5_edge_51 : Dn cX5_edge 51 (.isub) 1 52 := ⟨by decide +kernel, rfl⟩
theorem dX5_edge_52 : Dn cX5_edge 52 (.ireturn) 1 53 := ⟨by decide +kernel, rfl⟩
theorem dX5_edge_53 : Dn cX5_edge 53 (.aload_n 0) 1 54 := ⟨by decide +kernel, rfl⟩
theorem dX5_edge_54 : Dn cX5_edge 54 (.getfield 32) 3 57 := ⟨by decide +kernel, rfl⟩
theorem dX5_edge_57 : Dn cX5_edge 57 (.aload_n 0) 1 58 := ⟨by decide +kernel, rfl⟩
theorem dX5_edge_58 : Dn cX5_edge 58 (.getfield 12) 3 61 := ⟨by decide +kernel, rfl⟩
theorem dX5_edge_61 : Dn cX5_edge 61 (.getfield 42) 3 64 := ⟨by decide +kernel, rfl⟩
theorem dX5_edge_64 : Dn cX5_edge 64 (.iadd) 1 65 := ⟨by decide +kernel, rfl⟩
theorem dX5_edge_65 : Dn cX5_edge 65 (.iconst 1) 1 66 := ⟨by decide +kernel, rfl⟩
theorem dX5_edge_66 : Dn cX5_edge 66 (.isub) 1 67 := ⟨by decide +kernel, rfl⟩
theorem dX5_edge_67 : Dn cX5_edge 67 (.ireturn) 1 68 := ⟨by decide +kernel, rfl⟩
theorem dX6_init_0 : Dn cX6_init 0 (.aload_n 0) 1 1 := ⟨by decide +kernel, rfl⟩
theorem dX6_init_1 : Dn cX6_init 1 (.invokespecial 3) 3 4 := ⟨by decide +kernel, rfl⟩
theorem dX6_init_4 : Dn cX6_init 4 (.aload_n 0) 1 5 := ⟨by decide +kernel, rfl⟩
theorem dX6_init_5 : Dn cX6_init 5 (.sipush 400) 3 8 := ⟨by decide +kernel, rfl⟩
theorem dX6_init_8 : Dn cX6_init 8 (.newarray .int) 2 10 := ⟨by decide +kernel, rfl⟩
theorem dX6_init_10 : Dn cX6_init 10 (.putfield 9) 3 13 := ⟨by decide +kernel, rfl⟩
theorem dX6_init_13 : Dn cX6_init 13 (.aload_n 0) 1 14 := ⟨by decide +kernel, rfl⟩
theorem dX6_init_14 : Dn cX6_init 14 (.bipush 20) 2 16 := ⟨by decide +kernel, rfl⟩
theorem dX6_init_16 : Dn cX6_init 16 (.newarray .int) 2 18 := ⟨by decide +kernel, rfl⟩
theorem dX6_init_18 : Dn cX6_init 18 (.putfield 15) 3 21 := ⟨by decide +kernel, rfl⟩
theorem dX6_init_21 : Dn cX6_init 21 (.return_) 1 22 := ⟨by decide +kernel, rfl⟩
theorem dX6_find_0 : Dn cX6_find 0 (.aload_n 1) 1 1 := ⟨by decide +kernel, rfl⟩
theorem dX6_find_1 : Dn cX6_find 1 (.getfield 18) 3 4 := ⟨by decide +kernel, rfl⟩
theorem dX6_find_4 : Dn cX6_find 4 (.istore 4) 2 6 := ⟨by decide +kernel, rfl⟩
theorem dX6_find_6 : Dn cX6_find 6 (.aload_n 1) 1 7 := ⟨by decide +kernel, rfl⟩
theorem dX6_find_7 : Dn cX6_find 7 (.getfield 24) 3 10 := ⟨by decide +kernel, rfl⟩
theorem dX6_find_10 : Dn cX6_find 10 (.iconst 1) 1 11 := ⟨by decide +kernel, rfl⟩
theorem dX6_find_11 : Dn cX6_find 11 (.isub) 1 12 := ⟨by decide +kernel, rfl⟩
theorem dX6_find_12 : Dn cX6_find 12 (.istore 5) 2 14 := ⟨by decide +kernel, rfl⟩
theorem dX6_find_14 : Dn cX6_find 14 (.iload 5) 2 16 := ⟨by decide +kernel, rfl⟩
theorem dX6_find_16 : Dn cX6_find 16 (.istore 6) 2 18 := ⟨by decide +kernel, rfl⟩
theorem dX6_find_18 : Dn cX6_find 18 (.iload 6) 2 20 := ⟨by decide +kernel, rfl⟩
theorem dX6_find_20 : Dj cX6_find 20 (fun o => .ifCond .lt o) (103) 3 23 123 := ⟨by decide +kernel, rfl, by decide⟩
theorem dX6_find_23 : Dn cX6_find 23 (.iconst 0) 1 24 := ⟨by decide +kernel, rfl⟩
theorem dX6_find_24 : Dn cX6_find 24 (.istore 7) 2 26 := ⟨by decide +kernel, rfl⟩
theorem dX6_find_26 : Dn cX6_find 26 (.iload 7) 2 28 := ⟨by decide +kernel, rfl⟩
theorem dX6_find_28 : Dn cX6_find 28 (.iload 4) 2 30 := ⟨by decide +kernel, rfl⟩
theorem dX6_find_30 : Dj cX6_find 30 (fun o => .if_icmp .ge o) (87) 3 33 117 := ⟨by decide +kernel, rfl, by decide⟩
theorem dX6_find_33 : Dn cX6_find 33 (.aload_n 2) 1 34 := ⟨by decide +kernel, rfl⟩
theorem dX6_find_34 : Dn cX6_find 34 (.aload_n 3) 1 35 := ⟨by decide +kernel, rfl⟩
theorem dX6_find_35 : Dn cX6_find 35 (.aload_n 1) 1 36 := ⟨by decide +kernel, rfl⟩
theorem dX6_find_36 : Dn cX6_find 36 (.getfield 27) 3 39 := ⟨by decide +kernel, rfl⟩
theorem dX6_find_39 : Dn cX6_find 39 (.iload 7) 2 41 := ⟨by decide +kernel, rfl⟩
theorem dX6_find_41 : Dn cX6_find 41 (.iadd) 1 42 := ⟨by decide +kernel, rfl⟩
theorem dX6_find_42 : Dn cX6_find 42 (.aload_n 1) 1 43 := ⟨by decide +kernel, rfl⟩
theorem dX6_find_43 : Dn cX6_find 43 (.getfield 30) 3 46 := ⟨by decide +kernel, rfl⟩
theorem dX6_find_46 : Dn cX6_find 46 (.iload 6) 2 48 := ⟨by decide +kernel, rfl⟩
theorem dX6_find_48 : Dn cX6_find 48 (.iadd) 1 49 := ⟨by decide +kernel, rfl⟩
theorem dX6_find_49 : Dn cX6_find 49 (.invokestatic 33) 3 52 := ⟨by decide +kernel, rfl⟩
theorem dX6_find_52 : Dn cX6_find 52 (.istore 8) 2 54 := ⟨by decide +kernel, rfl⟩
theorem dX6_find_54 : Dn cX6_find 54 (.iload 6) 2 56 := ⟨by decide +kernel, rfl⟩
theorem dX6_find_56 : Dn cX6_find 56 (.iload 5) 2 58 := ⟨by decide +kernel, rfl⟩
theorem dX6_find_58 : Dj cX6_find 58 (fun o => .if_icmp .ne o) (7) 3 61 65 := ⟨by decide +kernel, rfl, by decide⟩
theorem dX6_find_61 : Dn cX6_find 61 (.iconst 0) 1 62 := ⟨by decide +kernel, rfl⟩
theorem dX6_find_62 : Dj cX6_find 62 .goto (29) 3 65 91 := ⟨by decide +kernel, rfl, by decide⟩
theorem dX6_find_65 : Dn cX6_find 65 (.aload_n 0) 1 66 := ⟨by decide +kernel, rfl⟩
theorem dX6_find_66 : Dn cX6_find 66 (.iload 6) 2 68 := ⟨by decide +kernel, rfl⟩
theorem dX6_find_68 : Dn cX6_find 68 (.iconst 1) 1 69 := ⟨by decide +kernel, rfl⟩
theorem dX6_find_69 : Dn cX6_find 69 (.iadd) 1 70 := ⟨by decide +kernel, rfl⟩
theorem dX6_find_70 : Dn cX6_find 70 (.aload_n 0) 1 71 := ⟨by decide +kernel, rfl⟩
theorem dX6_find_71 : Dn cX6_find 71 (.iload 6) 2 73 := ⟨by decide +kernel, rfl⟩
theorem dX6_find_73 : Dn cX6_find 73 (.iconst 1) 1 74 := ⟨by decide +kernel, rfl⟩
theorem dX6_find_74 : Dn cX6_find 74 (.iadd) 1 75 := ⟨by decide +kernel, rfl⟩
theorem dX6_find_75 : Dn cX6_find 75 (.iload 7) 2 77 := ⟨by decide +kernel, rfl⟩
theorem dX6_find_77 : Dn cX6_find 77 (.iconst 1) 1 78 := ⟨by decide +kernel, rfl⟩
theorem dX6_find_78 : Dn cX6_find 78 (.isub) 1 79 := ⟨by decide +kernel, rfl⟩
theorem dX6_find_79 : Dn cX6_find 79 (.iload 7) 2 81 := ⟨by decide +kernel, rfl⟩
theorem dX6_find_81 : Dn cX6_find 81 (.iconst 1) 1 82 := ⟨by decide +kernel, rfl⟩
theorem dX6_find_82 : Dn cX6_find 82 (.iadd) 1 83 := ⟨by decide +kernel, rfl⟩
theorem dX6_find_83 : Dn cX6_find 83 (.iload 4) 2 85 := ⟨by decide +kernel, rfl⟩
theorem dX6_find_85 : Dn cX6_find 85 (.invokevirtual 37) 3 88 := ⟨by decide +kernel, rfl⟩
theorem dX6_find_88 : Dn cX6_find 88 (.invokevirtual 41) 3 91 := ⟨by decide +kernel, rfl⟩
theorem dX6_find_91 : Dn cX6_find 91 (.istore 9) 2 93 := ⟨by decide +kernel, rfl⟩
theorem dX6_find_93 : Dn cX6_find 93 (.aload_n 0) 1 94 := ⟨by decide +kernel, rfl⟩
theorem dX6_find_94 : Dn cX6_find 94 (.getfield 9) 3 97 := ⟨by decide +kernel, rfl⟩
theorem dX6_find_97 : Dn cX6_find 97 (.iload 6) 2 99 := ⟨by decide +kernel, rfl⟩
theorem dX6_find_99 : Dn cX6_find 99 (.bipush 20) 2 101 := ⟨by decide +kernel, rfl⟩
theorem dX6_find_101 : Dn cX6_find 101 (.imul) 1 102 := ⟨by decide +kernel, rfl⟩
theorem dX6_find_102 : Dn cX6_find 102 (.iload 7) 2 104 := ⟨by decide +kernel, rfl⟩
theorem dX6_find_104 : Dn cX6_find 104 (.iadd) 1 105 := ⟨by decide +kernel, rfl⟩
theorem dX6_find_105 : Dn cX6_find 105 (.iload 8) 2 107 := ⟨by decide +kernel, rfl⟩
theorem dX6_find_107 : Dn cX6_find 107 (.iload 9) 2 109 := ⟨by decide +kernel, rfl⟩
theorem dX6_find_109 : Dn cX6_find 109 (.iadd) 1 110 := ⟨by decide +kernel, rfl⟩
theorem dX6_find_110 : Dn cX6_find 110 (.iastore) 1 111 := ⟨by decide +kernel, rfl⟩
theorem dX6_find_111 : Dn cX6_find 111 (.iinc 7 1) 3 114 := ⟨by decide +kernel, rfl⟩
theorem dX6_find_114 : Dj cX6_find 114 .goto (-88) 3 117 26 := ⟨by decide +kernel, rfl, by decide⟩
theorem dX6_find_117 : Dn cX6_find 117 (.iinc 6 (-1)) 3 120 := ⟨by decide +kernel, rfl⟩
theorem dX6_find_120 : Dj cX6_find 120 .goto (-102) 3 123 18 := ⟨by decide +kernel, rfl, by decide⟩
theorem dX6_find_123 : Dn cX6_find 123 (.aload_n 0) 1 124 := ⟨by decide +kernel, rfl⟩
theorem dX6_find_124 : Dn cX6_find 124 (.getfield 15) 3 127 := ⟨by decide +kernel, rfl⟩
theorem dX6_find_127 : Dn cX6_find 127 (.iconst 0) 1 128 := ⟨by decide +kernel, rfl⟩
theorem dX6_find_128 : Dn cX6_find 128 (.aload_n 0) 1 129 := ⟨by decide +kernel, rfl⟩
theorem dX6_find_129 : Dn cX6_find 129 (.iconst 0) 1 130 := ⟨by decide +kernel, rfl⟩
theorem dX6_find_130 : Dn cX6_find 130 (.iconst 0) 1 131 := ⟨by decide +kernel, rfl⟩
theorem dX6_find_131 : Dn cX6_find 131 (.iload 4) 2 133 := ⟨by decide +kernel, rfl⟩
theorem dX6_find_133 : Dn cX6_find 133 (.iconst 1) 1 134 := ⟨by decide +kernel, rfl⟩
theorem dX6_find_134 : Dn cX6_find 134 (.isub) 1 135 := ⟨by decide +kernel, rfl⟩
theorem dX6_find_135 : Dn cX6_find 135 (.iload 4) 2 137 := ⟨by decide +kernel, rfl⟩
theorem dX6_find_137 : Dn cX6_find 137 (.invokevirtual 37) 3 140 := ⟨by decide +kernel, rfl⟩
theorem dX6_find_140 : Dn cX6_find 140 (.iastore) 1 141 := ⟨by decide +kernel, rfl⟩
theorem dX6_find_141 : Dn cX6_find 141 (.aload_n 0) 1 142 := ⟨by decide +kernel, rfl⟩
theorem dX6_find_142 : Dn cX6_find 142 (.aload_n 0) 1 143 := ⟨by decide +kernel, rfl⟩
theorem dX6_find_143 : Dn cX6_find 143 (.iconst 0) 1 144 := ⟨by decide +kernel, rfl⟩
theorem dX6_find_144 : Dn cX6_find 144 (.aload_n 0) 1 145 := ⟨by decide +kernel, rfl⟩
theorem dX6_find_145 : Dn cX6_find 145 (.getfield 15) 3 148 := ⟨by decide +kernel, rfl⟩
theorem dX6_find_148 : Dn cX6_find 148 (.iconst 0) 1 149 := ⟨by decide +kernel, rfl⟩
theorem dX6_find_149 : Dn cX6_find 149 (.iaload) 1 150 := ⟨by decide +kernel, rfl⟩
theorem dX6_find_150 : Dn cX6_find 150 (.invokevirtual 41) 3 153 := ⟨by decide +kernel, rfl⟩
theorem dX6_find_153 : Dn cX6_find 153 (.putfield 45) 3 156 := ⟨by decide +kernel, rfl⟩
theorem dX6_find_156 : Dn cX6_find 156 (.iconst 1) 1 157 := ⟨by decide +kernel, rfl⟩
theorem dX6_find_157 : Dn cX6_find 157 (.istore 6) 2 159 := ⟨by decide +kernel, rfl⟩
theorem dX6_find_159 : Dn cX6_find 159 (.iload 6) 2 161 := ⟨by decide +kernel, rfl⟩
theorem dX6_find_161 : Dn cX6_find 161 (.iload 5) 2 163 := ⟨by decide +kernel, rfl⟩
theorem dX6_find_163 : Dj cX6_find 163 (fun o => .if_icmp .gt o) (46) 3 166 209 := ⟨by decide +kernel, rfl, by decide⟩
theorem dX6_find_166 : Dn cX6_find 166 (.aload_n 0) 1 167 := ⟨by decide +kernel, rfl⟩
theorem dX6_find_167 : Dn cX6_find 167 (.getfield 15) 3 170 := ⟨by decide +kernel, rfl⟩
theorem dX6_find_170 : Dn cX6_find 170 (.iload 6) 2 172 := ⟨by decide +kernel, rfl⟩
theorem dX6_find_172 : Dn cX6_find 172 (.aload_n 0) 1 173 := ⟨by decide +kernel, rfl⟩
theorem dX6_find_173 : Dn cX6_find 173 (.iload 6) 2 175 := ⟨by decide +kernel, rfl⟩
theorem dX6_find_175 : Dn cX6_find 175 (.aload_n 0) 1 176 := ⟨by decide +kernel, rfl⟩
theorem dX6_find_176 : Dn cX6_find 176 (.getfield 15) 3 179 := ⟨by decide +kernel, rfl⟩
theorem dX6_find_179 : Dn cX6_find 179 (.iload 6) 2 181 := ⟨by decide +kernel, rfl⟩
theorem dX6_find_181 : Dn cX6_find 181 (.iconst 1) 1 182 := ⟨by decide +kernel, rfl⟩
theorem dX6_find_182 : Dn cX6_find 182 (.isub) 1 183 := ⟨by decide +kernel, rfl⟩
theorem dX6_find_183 : Dn cX6_find 183 (.iaload) 1 184 := ⟨by decide +kernel, rfl⟩
theorem dX6_find_184 : Dn cX6_find 184 (.iconst 1) 1 185 := ⟨by decide +kernel, rfl⟩
theorem dX6_find_185 : Dn cX6_find 185 (.isub) 1 186 := ⟨by decide +kernel, rfl⟩
theorem dX6_find_186 : Dn cX6_find 186 (.aload_n 0) 1 187 := ⟨by decide +kernel, rfl⟩
theorem dX6_find_187 : Dn cX6_find 187 (.getfield 15) 3 190 := ⟨by decide +kernel, rfl⟩
theorem dX6_find_190 : Dn cX6_find 190 (.iload 6) 2 192 := ⟨by decide +kernel, rfl⟩
theorem dX6_find_192 : Dn cX6_find 192 (.iconst 1) 1 193 := ⟨by decide +kernel, rfl⟩
theorem dX6_find_193 : Dn cX6_find 193 (.isub) 1 194 := ⟨by decide +kernel, rfl⟩
theorem dX6_find_194 : Dn cX6_find 194 (.iaload) 1 195 := ⟨by decide +kernel, rfl⟩
theorem dX6_find_195 : Dn cX6_find 195 (.iconst 1) 1 196 := ⟨by decide +kernel, rfl⟩
theorem dX6_find_196 : Dn cX6_find 196 (.iadd) 1 197 := ⟨by decide +kernel, rfl⟩
theorem dX6_find_197 : Dn cX6_find 197 (.iload 4) 2 199 := ⟨by decide +kernel, rfl⟩
theorem dX6_find_199 : Dn cX6_find 199 (.invokevirtual 37) 3 202 := ⟨by decide +kernel, rfl⟩
theorem dX6_find_202 : Dn cX6_find 202 (.iastore) 1 203 := ⟨by decide +kernel, rfl⟩
theorem dX6_find_203 : Dn cX6_find 203 (.iinc 6 1) 3 206 := ⟨by decide +kernel, rfl⟩
theorem dX6_find_206 : Dj cX6_find 206 .goto (-47) 3 209 159 := ⟨by decide +kernel, rfl, by decide⟩
theorem dX6_find_209 : Dn cX6_find 209 (.return_) 1 210 := ⟨by decide +kernel, rfl⟩
theorem dX6_unlikeness_0 : Dn cX6_unlikeness 0 (.aload_n 0) 1 1 := ⟨by decide +kernel, rfl⟩
theorem dX6_unlikeness_1 : Dn cX6_unlikeness 1 (.iload_n 2) 1 2 := ⟨by decide +kernel, rfl⟩
theorem dX6_unlikeness_2 : Dn cX6_unlikeness 2 (.iload_n 3) 1 3 := ⟨by decide +kernel, rfl⟩
theorem dX6_unlikeness_3 : Dn cX6_unlikeness 3 (.invokevirtual 48) 3 6 := ⟨by decide +kernel, rfl⟩
theorem dX6_unlikeness_6 : Dn cX6_unlikeness 6 (.istore 4) 2 8 := ⟨by decide +kernel, rfl⟩
theorem dX6_unlikeness_8 : Dn cX6_unlikeness 8 (.aload_n 1) 1 9 := ⟨by decide +kernel, rfl⟩
theorem dX6_unlikeness_9 : Dn cX6_unlikeness 9 (.iload_n 2) 1 10 := ⟨by decide +kernel, rfl⟩
theorem dX6_unlikeness_10 : Dn cX6_unlikeness 10 (.iload_n 3) 1 11 := ⟨by decide +kernel, rfl⟩
theorem dX6_unlikeness_11 : Dn cX6_unlikeness 11 (.invokevirtual 48) 3 14 := ⟨by decide +kernel, rfl⟩
theorem dX6_unlikeness_14 : Dn cX6_unlikeness 14 (.istore 5) 2 16 := ⟨by decide +kernel, rfl⟩
theorem dX6_unlikeness_16 : Dn cX6_unlikeness 16 (.iload 4) 2 18 := ⟨by decide +kernel, rfl⟩
theorem dX6_unlikeness_18 : Dn cX6_unlikeness 18 (.iconst (-1)) 1 19 := ⟨by decide +kernel, rfl⟩
theorem dX6_unlikeness_19 : Dj cX6_unlikeness 19 (fun o => .if_icmp .eq o) (9) 3 22 28 := ⟨by decide +kernel, rfl, by decide⟩
theorem dX6_unlikeness_22 : Dn cX6_unlikeness 22 (.iload 5) 2 24 := ⟨by decide +kernel, rfl⟩
theorem dX6_unlikeness_24 : Dn cX6_unlikeness 24 (.iconst (-1)) 1 25 := ⟨by decide +kernel, rfl⟩
theorem dX6_unlikeness_25 : Dj cX6_unlikeness 25 (fun o => .if_icmp .ne o) (9) 3 28 34 := ⟨by decide +kernel, rfl, by decide⟩
theorem dX6_unlikeness_28 : Dn cX6_unlikeness 28 (.sipush 255) 3 31 := ⟨by decide +kernel, rfl⟩
theorem dX6_unlikeness_31 : Dj cX6_unlikeness 31 .goto (11) 3 34 42 := ⟨by decide +kernel, rfl, by decide⟩
theorem dX6_unlikeness_34 : Dn cX6_unlikeness 34 (.iload 4) 2 36 := ⟨by decide +kernel, rfl⟩
theorem dX6_unlikeness_36 : Dn cX6_unlikeness 36 (.iload 5) 2 38 := ⟨by decide +kernel, rfl⟩
theorem dX6_unlikeness_38 : Dn cX6_unlikeness 38 (.isub) 1 39 := ⟨by decide +kernel, rfl⟩
theorem dX6_unlikeness_39 : Dn cX6_unlikeness 39 (.invokestatic 53) 3 42 := ⟨by decide +kernel, rfl⟩
theorem dX6_unlikeness_42 : Dn cX6_unlikeness 42 (.ireturn) 1 43 := ⟨by decide +kernel, rfl⟩
theorem dX6_costAt_0 : Dn cX6_costAt 0 (.aload_n 0) 1 1 := ⟨by decide +kernel, rfl⟩
theorem dX6_costAt_1 : Dn cX6_costAt 1 (.getfield 9) 3 4 := ⟨by decide +kernel, rfl⟩
theorem dX6_costAt_4 : Dn cX6_costAt 4 (.iload_n 1) 1 5 := ⟨by decide +kernel, rfl⟩
theorem dX6_costAt_5 : Dn cX6_costAt 5 (.bipush 20) 2 7 := ⟨by decide +kernel, rfl⟩
theorem dX6_costAt_7 : Dn cX6_costAt 7 (.imul) 1 8 := ⟨by decide +kernel, rfl⟩
theorem dX6_costAt_8 : Dn cX6_costAt 8 (.iload_n 2) 1 9 := ⟨by decide +kernel, rfl⟩
theorem dX6_costAt_9 : Dn cX6_costAt 9 (.iadd) 1 10 := ⟨by decide +kernel, rfl⟩
theorem dX6_costAt_10 : Dn cX6_costAt 10 (.iaload) 1 11 := ⟨by decide +kernel, rfl⟩
theorem dX6_costAt_11 : Dn cX6_costAt 11 (.ireturn) 1 12 := ⟨by decide +kernel, rfl⟩
theorem dX6_cheapest_0 : Dn cX6_cheapest 0 (.iload_n 2) 1 1 := ⟨by decide +kernel, rfl⟩
theorem dX6_cheapest_1 : Dn cX6_cheapest 1 (.iconst 0) 1 2 := ⟨by decide +kernel, rfl⟩
theorem dX6_cheapest_2 : Dn cX6_cheapest 2 (.invokestatic 59) 3 5 := ⟨by decide +kernel, rfl⟩
theorem dX6_cheapest_5 : Dn cX6_cheapest 5 (.istore 5) 2 7 := ⟨by decide +kernel, rfl⟩
theorem dX6_cheapest_7 : Dn cX6_cheapest 7 (.iload 5) 2 9 := ⟨by decide +kernel, rfl⟩
theorem dX6_cheapest_9 : Dn cX6_cheapest 9 (.iconst 1) 1 10 := ⟨by decide +kernel, rfl⟩
theorem dX6_cheapest_10 : Dn cX6_cheapest 10 (.iadd) 1 11 := ⟨by decide +kernel, rfl⟩
theorem dX6_cheapest_11 : Dn cX6_cheapest 11 (.istore 6) 2 13 := ⟨by decide +kernel, rfl⟩
theorem dX6_cheapest_13 : Dn cX6_cheapest 13 (.iload 6) 2 15 := ⟨by decide +kernel, rfl⟩
theorem dX6_cheapest_15 : Dn cX6_cheapest 15 (.iload_n 3) 1 16 := ⟨by decide +kernel, rfl⟩
theorem dX6_cheapest_16 : Dj cX6_cheapest 16 (fun o => .if_icmp .gt o) (37) 3 19 53 := ⟨by decide +kernel, rfl, by decide⟩
theorem dX6_cheapest_19 : Dn cX6_cheapest 19 (.iload 6) 2 21 := ⟨by decide +kernel, rfl⟩
theorem dX6_cheapest_21 : Dn cX6_cheapest 21 (.iload 4) 2 23 := ⟨by decide +kernel, rfl⟩
theorem dX6_cheapest_23 : Dj cX6_cheapest 23 (fun o => .if_icmp .ge o) (30) 3 26 53 := ⟨by decide +kernel, rfl, by decide⟩
theorem dX6_cheapest_26 : Dn cX6_cheapest 26 (.aload_n 0) 1 27 := ⟨by decide +kernel, rfl⟩
theorem dX6_cheapest_27 : Dn cX6_cheapest 27 (.iload_n 1) 1 28 := ⟨by decide +kernel, rfl⟩
theorem dX6_cheapest_28 : Dn cX6_cheapest 28 (.iload 6) 2 30 := ⟨by decide +kernel, rfl⟩
theorem dX6_cheapest_30 : Dn cX6_cheapest 30 (.invokevirtual 41) 3 33 := ⟨by decide +kernel, rfl⟩
theorem dX6_cheapest_33 : Dn cX6_cheapest 33 (.aload_n 0) 1 34 := ⟨by decide +kernel, rfl⟩
theorem dX6_cheapest_34 : Dn cX6_cheapest 34 (.iload_n 1) 1 35 := ⟨by decide +kernel, rfl⟩
theorem dX6_cheapest_35 : Dn cX6_cheapest 35 (.iload 5) 2 37 := ⟨by decide +kernel, rfl⟩
theorem dX6_cheapest_37 : Dn cX6_cheapest 37 (.invokevirtual 41) 3 40 := ⟨by decide +kernel, rfl⟩
theorem dX6_cheapest_40 : Dj cX6_cheapest 40 (fun o => .if_icmp .ge o) (7) 3 43 47 := ⟨by decide +kernel, rfl, by decide⟩
theorem dX6_cheapest_43 : Dn cX6_cheapest 43 (.iload 6) 2 45 := ⟨by decide +kernel, rfl⟩
theorem dX6_cheapest_45 : Dn cX6_cheapest 45 (.istore 5) 2 47 := ⟨by decide +kernel, rfl⟩
theorem dX6_cheapest_47 : Dn cX6_cheapest 47 (.iinc 6 1) 3 50 := ⟨by decide +kernel, rfl⟩
theorem dX6_cheapest_50 : Dj cX6_cheapest 50 .goto (-37) 3 53 13 := ⟨by decide +kernel, rfl, by decide⟩
theorem dX6_cheapest_53 : Dn cX6_cheapest 53 (.iload 5) 2 55 := ⟨by decide +kernel, rfl⟩
theorem dX6_cheapest_55 : Dn cX6_cheapest 55 (.ireturn) 1 56 := ⟨by decide +kernel, rfl⟩
theorem dX8_init_0 : Dn cX8_init 0 (.aload_n 0) 1 1 := ⟨by decide +kernel, rfl⟩
theorem dX8_init_1 : Dn cX8_init 1 (.invokespecial 3) 3 4 := ⟨by decide +kernel, rfl⟩
theorem dX8_init_4 : Dn cX8_init 4 (.aload_n 0) 1 5 := ⟨by decide +kernel, rfl⟩
theorem dX8_init_5 : Dn cX8_init 5 (.new 9) 3 8 := ⟨by decide +kernel, rfl⟩
theorem dX8_init_8 : Dn cX8_init 8 (.dup) 1 9 := ⟨by decide +kernel, rfl⟩
theorem dX8_init_9 : Dn cX8_init 9 (.invokespecial 11) 3 12 := ⟨by decide +kernel, rfl⟩
theorem dX8_init_12 : Dn cX8_init 12 (.putfield 12) 3 15 := ⟨by decide +kernel, rfl⟩
theorem dX8_init_15 : Dn cX8_init 15 (.aload_n 0) 1 16 := ⟨by decide +kernel, rfl⟩
theorem dX8_init_16 : Dn cX8_init 16 (.new 16) 3 19 := ⟨by decide +kernel, rfl⟩
theorem dX8_init_19 : Dn cX8_init 19 (.dup) 1 20 := ⟨by decide +kernel, rfl⟩
theorem dX8_init_20 : Dn cX8_init 20 (.invokespecial 18) 3 23 := ⟨by decide +kernel, rfl⟩
theorem dX8_init_23 : Dn cX8_init 23 (.putfield 19) 3 26 := ⟨by decide +kernel, rfl⟩
theorem dX8_init_26 : Dn cX8_init 26 (.aload_n 0) 1 27 := ⟨by decide +kernel, rfl⟩
theorem dX8_init_27 : Dn cX8_init 27 (.new 23) 3 30 := ⟨by decide +kernel, rfl⟩
theorem dX8_init_30 : Dn cX8_init 30 (.dup) 1 31 := ⟨by decide +kernel, rfl⟩
theorem dX8_init_31 : Dn cX8_init 31 (.invokespecial 25) 3 34 := ⟨by decide +kernel, rfl⟩
theorem dX8_init_34 : Dn cX8_init 34 (.putfield 26) 3 37 := ⟨by decide +kernel, rfl⟩
theorem dX8_init_37 : Dn cX8_init 37 (.aload_n 0) 1 38 := ⟨by decide +kernel, rfl⟩
theorem dX8_init_38 : Dn cX8_init 38 (.new 30) 3 41 := ⟨by decide +kernel, rfl⟩
theorem dX8_init_41 : Dn cX8_init 41 (.dup) 1 42 := ⟨by decide +kernel, rfl⟩
theorem dX8_init_42 : Dn cX8_init 42 (.invokespecial 32) 3 45 := ⟨by decide +kernel, rfl⟩
theorem dX8_init_45 : Dn cX8_init 45 (.putfield 33) 3 48 := ⟨by decide +kernel, rfl⟩
theorem dX8_init_48 : Dn cX8_init 48 (.aload_n 0) 1 49 := ⟨by decide +kernel, rfl⟩
theorem dX8_init_49 : Dn cX8_init 49 (.sipush 5000) 3 52 := ⟨by decide +kernel, rfl⟩
theorem dX8_init_52 : Dn cX8_init 52 (.putfield 37) 3 55 := ⟨by decide +kernel, rfl⟩
theorem dX8_init_55 : Dn cX8_init 55 (.aload_n 0) 1 56 := ⟨by decide +kernel, rfl⟩
theorem dX8_init_56 : Dn cX8_init 56 (.iconst 2) 1 57 := ⟨by decide +kernel, rfl⟩
theorem dX8_init_57 : Dn cX8_init 57 (.putfield 41) 3 60 := ⟨by decide +kernel, rfl⟩
theorem dX8_init_60 : Dn cX8_init 60 (.return_) 1 61 := ⟨by decide +kernel, rfl⟩
theorem dX8_seed_0 : Dn cX8_seed 0 (.aload_n 0) 1 1 := ⟨by decide +kernel, rfl⟩
theorem dX8_seed_1 : Dn cX8_seed 1 (.getfield 12) 3 4 := ⟨by decide +kernel, rfl⟩
theorem dX8_seed_4 : Dn cX8_seed 4 (.getfield 44) 3 7 := ⟨by decide +kernel, rfl⟩
theorem dX8_seed_7 : Dn cX8_seed 7 (.istore_n 2) 1 8 := ⟨by decide +kernel, rfl⟩
theorem dX8_seed_8 : Dn cX8_seed 8 (.aload_n 0) 1 9 := ⟨by decide +kernel, rfl⟩
theorem dX8_seed_9 : Dn cX8_seed 9 (.getfield 12) 3 12 := ⟨by decide +kernel, rfl⟩
theorem dX8_seed_12 : Dn cX8_seed 12 (.iload_n 1) 1 13 := ⟨by decide +kernel, rfl⟩
theorem dX8_seed_13 : Dn cX8_seed 13 (.putfield 44) 3 16 := ⟨by decide +kernel, rfl⟩
theorem dX8_seed_16 : Dn cX8_seed 16 (.iload_n 2) 1 17 := ⟨by decide +kernel, rfl⟩
theorem dX8_seed_17 : Dn cX8_seed 17 (.ireturn) 1 18 := ⟨by decide +kernel, rfl⟩
theorem dX8_light_0 : Dn cX8_light 0 (.iload_n 1) 1 1 := ⟨by decide +kernel, rfl⟩
theorem dX8_light_1 : Dn cX8_light 1 (.iconst 0) 1 2 := ⟨by decide +kernel, rfl⟩
theorem dX8_light_2 : Dn cX8_light 2 (.sipush 2000) 3 5 := ⟨by decide +kernel, rfl⟩
theorem dX8_light_5 : Dn cX8_light 5 (.invokestatic 47) 3 8 := ⟨by decide +kernel, rfl⟩
theorem dX8_light_8 : Dj cX8_light 8 (fun o => .ifCond .eq o) (18) 3 11 26 := ⟨by decide +kernel, rfl, by decide⟩
theorem dX8_light_11 : Dn cX8_light 11 (.iload_n 2) 1 12 := ⟨by decide +kernel, rfl⟩
theorem dX8_light_12 : Dn cX8_light 12 (.iconst 0) 1 13 := ⟨by decide +kernel, rfl⟩
theorem dX8_light_13 : Dn cX8_light 13 (.sipush 2000) 3 16 := ⟨by decide +kernel, rfl⟩
theorem dX8_light_16 : Dn cX8_light 16 (.invokestatic 47) 3 19 := ⟨by decide +kernel, rfl⟩
theorem dX8_light_19 : Dj cX8_light 19 (fun o => .ifCond .eq o) (7) 3 22 26 := ⟨by decide +kernel, rfl, by decide⟩
theorem dX8_light_22 : Dn cX8_light 22 (.iconst 1) 1 23 := ⟨by decide +kernel, rfl⟩
theorem dX8_light_23 : Dj cX8_light 23 .goto (4) 3 26 27 := ⟨by decide +kernel, rfl, by decide⟩
theorem dX8_light_26 : Dn cX8_light 26 (.iconst 0) 1 27 := ⟨by decide +kernel, rfl⟩
theorem dX8_light_27 : Dn cX8_light 27 (.istore_n 3) 1 28 := ⟨by decide +kernel, rfl⟩
theorem dX8_light_28 : Dn cX8_light 28 (.iload_n 3) 1 29 := ⟨by decide +kernel, rfl⟩
theorem dX8_light_29 : Dj cX8_light 29 (fun o => .ifCond .eq o) (15) 3 32 44 := ⟨by decide +kernel, rfl, by decide⟩
theorem dX8_light_32 : Dn cX8_light 32 (.aload_n 0) 1 33 := ⟨by decide +kernel, rfl⟩
theorem dX8_light_33 : Dn cX8_light 33 (.getfield 12) 3 36 := ⟨by decide +kernel, rfl⟩
theorem dX8_light_36 : Dn cX8_light 36 (.iload_n 1) 1 37 := ⟨by decide +kernel, rfl⟩
theorem dX8_light_37 : Dn cX8_light 37 (.iload_n 2) 1 38 := ⟨by decide +kernel, rfl⟩
theorem dX8_light_38 : Dn cX8_light 38 (.invokevirtual 51) 3 41 := ⟨by decide +kernel, rfl⟩
theorem dX8_light_41 : Dj cX8_light 41 .goto (5) 3 44 46 := ⟨by decide +kernel, rfl, by decide⟩
theorem dX8_light_44 : Dn cX8_light 44 (.bipush (-2)) 2 46 := ⟨by decide +kernel, rfl⟩
theorem dX8_light_46 : Dn cX8_light 46 (.ireturn) 1 47 := ⟨by decide +kernel, rfl⟩
theorem dX8_shoot_0 : Dn cX8_shoot 0 (.iload_n 1) 1 1 := ⟨by decide +kernel, rfl⟩
theorem dX8_shoot_1 : Dn cX8_shoot 1 (.bipush 8) 2 3 := ⟨by decide +kernel, rfl⟩
theorem dX8_shoot_3 : Dn cX8_shoot 3 (.bipush 20) 2 5 := ⟨by decide +kernel, rfl⟩
theorem dX8_shoot_5 : Dn cX8_shoot 5 (.invokestatic 47) 3 8 := ⟨by decide +kernel, rfl⟩
theorem dX8_shoot_8 : Dj cX8_shoot 8 (fun o => .ifCond .eq o) (52) 3 11 60 := ⟨by decide +kernel, rfl, by decide⟩
theorem dX8_shoot_11 : Dn cX8_shoot 11 (.iload_n 2) 1 12 := ⟨by decide +kernel, rfl⟩
theorem dX8_shoot_12 : Dn cX8_shoot 12 (.bipush 8) 2 14 := ⟨by decide +kernel, rfl⟩
theorem dX8_shoot_14 : Dn cX8_shoot 14 (.bipush 20) 2 16 := ⟨by decide +kernel, rfl⟩
theorem dX8_shoot_16 : Dn cX8_shoot 16 (.invokestatic 47) 3 19 := ⟨by decide +kernel, rfl⟩
theorem dX8_shoot_19 : Dj cX8_shoot 19 (fun o => .ifCond .eq o) (41) 3 22 60 := ⟨by decide +kernel, rfl, by decide⟩
theorem dX8_shoot_22 : Dn cX8_shoot 22 (.iload_n 3) 1 23 := ⟨by decide +kernel, rfl⟩
theorem dX8_shoot_23 : Dn cX8_shoot 23 (.iconst 0) 1 24 := ⟨by decide +kernel, rfl⟩
theorem dX8_shoot_24 : Dn cX8_shoot 24 (.sipush 1900) 3 27 := ⟨by decide +kernel, rfl⟩
theorem dX8_shoot_27 : Dn cX8_shoot 27 (.invokestatic 47) 3 30 := ⟨by decide +kernel, rfl⟩
theorem dX8_shoot_30 : Dj cX8_shoot 30 (fun o => .ifCond .eq o) (30) 3 33 60 := ⟨by decide +kernel, rfl, by decide⟩
theorem dX8_shoot_33 : Dn cX8_shoot 33 (.iload 4) 2 35 := ⟨by decide +kernel, rfl⟩
theorem dX8_shoot_35 : Dn cX8_shoot 35 (.iconst 0) 1 36 := ⟨by decide +kernel, rfl⟩
theorem dX8_shoot_36 : Dn cX8_shoot 36 (.sipush 1900) 3 39 := ⟨by decide +kernel, rfl⟩
theorem dX8_shoot_39 : Dn cX8_shoot 39 (.invokestatic 47) 3 42 := ⟨by decide +kernel, rfl⟩
theorem dX8_shoot_42 : Dj cX8_shoot 42 (fun o => .ifCond .eq o) (18) 3 45 60 := ⟨by decide +kernel, rfl, by decide⟩
theorem dX8_shoot_45 : Dn cX8_shoot 45 (.iload 5) 2 47 := ⟨by decide +kernel, rfl⟩
theorem dX8_shoot_47 : Dn cX8_shoot 47 (.iconst 1) 1 48 := ⟨by decide +kernel, rfl⟩
theorem dX8_shoot_48 : Dn cX8_shoot 48 (.bipush 64) 2 50 := ⟨by decide +kernel, rfl⟩
theorem dX8_shoot_50 : Dn cX8_shoot 50 (.invokestatic 47) 3 53 := ⟨by decide +kernel, rfl⟩
theorem dX8_shoot_53 : Dj cX8_shoot 53 (fun o => .ifCond .eq o) (7) 3 56 60 := ⟨by decide +kernel, rfl, by decide⟩
theorem dX8_shoot_56 : Dn cX8_shoot 56 (.iconst 1) 1 57 := ⟨by decide +kernel, rfl⟩
theorem dX8_shoot_57 : Dj cX8_shoot 57 .goto (4) 3 60 61 := ⟨by decide +kernel, rfl, by decide⟩
theorem dX8_shoot_60 : Dn cX8_shoot 60 (.iconst 0) 1 61 := ⟨by decide +kernel, rfl⟩
theorem dX8_shoot_61 : Dn cX8_shoot 61 (.istore 6) 2 63 := ⟨by decide +kernel, rfl⟩
theorem dX8_shoot_63 : Dn cX8_shoot 63 (.iload 6) 2 65 := ⟨by decide +kernel, rfl⟩
theorem dX8_shoot_65 : Dj cX8_shoot 65 (fun o => .ifCond .ne o) (6) 3 68 71 := ⟨by decide +kernel, rfl, by decide⟩
theorem dX8_shoot_68 : Dn cX8_shoot 68 (.bipush (-2)) 2 70 := ⟨by decide +kernel, rfl⟩
theorem dX8_shoot_70 : Dn cX8_shoot 70 (.ireturn) 1 71 := ⟨by decide +kernel, rfl⟩
theorem dX8_shoot_71 : Dn cX8_shoot 71 (.aload_n 0) 1 72 := ⟨by decide +kernel, rfl⟩
theorem dX8_shoot_72 : Dn cX8_shoot 72 (.getfield 19) 3 75 := ⟨by decide +kernel, rfl⟩
theorem dX8_shoot_75 : Dn cX8_shoot 75 (.getfield 55) 3 78 := ⟨by decide +kernel, rfl⟩
theorem dX8_shoot_78 : Dn cX8_shoot 78 (.iconst 4) 1 79 := ⟨by decide +kernel, rfl⟩
theorem dX8_shoot_79 : Dj cX8_shoot 79 (fun o => .if_icmp .lt o) (6) 3 82 85 := ⟨by decide +kernel, rfl, by decide⟩
theorem dX8_shoot_82 : Dn cX8_shoot 82 (.bipush (-4)) 2 84 := ⟨by decide +kernel, rfl⟩
theorem dX8_shoot_84 : Dn cX8_shoot 84 (.ireturn) 1 85 := ⟨by decide +kernel, rfl⟩
theorem dX8_shoot_85 : Dn cX8_shoot 85 (.aload_n 0) 1 86 := ⟨by decide +kernel, rfl⟩
theorem dX8_shoot_86 : Dn cX8_shoot 86 (.getfield 19) 3 89 := ⟨by decide +kernel, rfl⟩
theorem dX8_shoot_89 : Dn cX8_shoot 89 (.getfield 58) 3 92 := ⟨by decide +kernel, rfl⟩
theorem dX8_shoot_92 : Dn cX8_shoot 92 (.aload_n 0) 1 93 := ⟨by decide +kernel, rfl⟩
theorem dX8_shoot_93 : Dn cX8_shoot 93 (.getfield 19) 3 96 := ⟨by decide +kernel, rfl⟩
theorem dX8_shoot_96 : Dn cX8_shoot 96 (.getfield 55) 3 99 := ⟨by decide +kernel, rfl⟩
theorem dX8_shoot_99 : Dn cX8_shoot 99 (.aaload) 1 100 := ⟨by decide +kernel, rfl⟩
theorem dX8_shoot_100 : Dn cX8_shoot 100 (.getfield 62) 3 103 := ⟨by decide +kernel, rfl⟩
theorem dX8_shoot_103 : Dn cX8_shoot 103 (.astore 7) 2 105 := ⟨by decide +kernel, rfl⟩
theorem dX8_shoot_105 : Dn cX8_shoot 105 (.aload 7) 2 107 := ⟨by decide +kernel, rfl⟩
theorem dX8_shoot_107 : Dn cX8_shoot 107 (.iload_n 1) 1 108 := ⟨by decide +kernel, rfl⟩
theorem dX8_shoot_108 : Dn cX8_shoot 108 (.iload_n 2) 1 109 := ⟨by decide +kernel, rfl⟩
theorem dX8_shoot_109 : Dn cX8_shoot 109 (.invokevirtual 68) 3 112 := ⟨by decide +kernel, rfl⟩
theorem dX8_shoot_112 : Dn cX8_shoot 112 (.aload_n 0) 1 113 := ⟨by decide +kernel, rfl⟩
theorem dX8_shoot_113 : Dn cX8_shoot 113 (.getfield 12) 3 116 := ⟨by decide +kernel, rfl⟩
theorem dX8_shoot_116 : Dn cX8_shoot 116 (.aload 7) 2 118 := ⟨by decide +kernel, rfl⟩
theorem dX8_shoot_118 : Dn cX8_shoot 118 (.iload_n 3) 1 119 := ⟨by decide +kernel, rfl⟩
theorem dX8_shoot_119 : Dn cX8_shoot 119 (.iload 4) 2 121 := ⟨by decide +kernel, rfl⟩
theorem dX8_shoot_121 : Dn cX8_shoot 121 (.iload 5) 2 123 := ⟨by decide +kernel, rfl⟩
theorem dX8_shoot_123 : Dn cX8_shoot 123 (.invokevirtual 74) 3 126 := ⟨by decide +kernel, rfl⟩
theorem dX8_shoot_126 : Dn cX8_shoot 126 (.aload_n 0) 1 127 := ⟨by decide +kernel, rfl⟩
theorem dX8_shoot_127 : Dn cX8_shoot 127 (.getfield 19) 3 130 := ⟨by decide +kernel, rfl⟩
theorem dX8_shoot_130 : Dn cX8_shoot 130 (.iconst 1) 1 131 := ⟨by decide +kernel, rfl⟩
theorem dX8_shoot_131 : Dn cX8_shoot 131 (.putfield 78) 3 134 := ⟨by decide +kernel, rfl⟩
theorem dX8_shoot_134 : Dn cX8_shoot 134 (.aload_n 0) 1 135 := ⟨by decide +kernel, rfl⟩
theorem dX8_shoot_135 : Dn cX8_shoot 135 (.getfield 19) 3 138 := ⟨by decide +kernel, rfl⟩
theorem dX8_shoot_138 : Dn cX8_shoot 138 (.dup) 1 139 := ⟨by decide +kernel, rfl⟩
theorem dX8_shoot_139 : Dn cX8_shoot 139 (.getfield 55) 3 142 := ⟨by decide +kernel, rfl⟩
theorem dX8_shoot_142 : Dn cX8_shoot 142 (.iconst 1) 1 143 := ⟨by decide +kernel, rfl⟩
theorem dX8_shoot_143 : Dn cX8_shoot 143 (.iadd) 1 144 := ⟨by decide +kernel, rfl⟩
theorem dX8_shoot_144 : Dn cX8_shoot 144 (.putfield 55) 3 147 := ⟨by decide +kernel, rfl⟩
theorem dX8_shoot_147 : Dn cX8_shoot 147 (.aload_n 0) 1 148 := ⟨by decide +kernel, rfl⟩
theorem dX8_shoot_148 : Dn cX8_shoot 148 (.getfield 19) 3 151 := ⟨by decide +kernel, rfl⟩
theorem dX8_shoot_151 : Dn cX8_shoot 151 (.getfield 55) 3 154 := ⟨by decide +kernel, rfl⟩
theorem dX8_shoot_154 : Dn cX8_shoot 154 (.iconst 1) 1 155 := ⟨by decide +kernel, rfl⟩
theorem dX8_shoot_155 : Dn cX8_shoot 155 (.isub) 1 156 := ⟨by decide +kernel, rfl⟩
theorem dX8_shoot_156 : Dn cX8_shoot 156 (.ireturn) 1 157 := ⟨by decide +kernel, rfl⟩
theorem dX8_clear_0 : Dn cX8_clear 0 (.aload_n 0) 1 1 := ⟨by decide +kernel, rfl⟩
theorem dX8_clear_1 : Dn cX8_clear 1 (.getfield 19) 3 4 := ⟨by decide +kernel, rfl⟩
theorem dX8_clear_4 : Dn cX8_clear 4 (.getfield 55) 3 7 := ⟨by decide +kernel, rfl⟩
theorem dX8_clear_7 : Dn cX8_clear 7 (.istore_n 1) 1 8 := ⟨by decide +kernel, rfl⟩
theorem dX8_clear_8 : Dn cX8_clear 8 (.aload_n 0) 1 9 := ⟨by decide +kernel, rfl⟩
theorem dX8_clear_9 : Dn cX8_clear 9 (.getfield 19) 3 12 := ⟨by decide +kernel, rfl⟩
theorem dX8_clear_12 : Dn cX8_clear 12 (.iconst 0) 1 13 := ⟨by decide +kernel, rfl⟩
theorem dX8_clear_13 : Dn cX8_clear 13 (.putfield 55) 3 16 := ⟨by decide +kernel, rfl⟩
theorem dX8_clear_16 : Dn cX8_clear 16 (.aload_n 0) 1 17 := ⟨by decide +kernel, rfl⟩
theorem dX8_clear_17 : Dn cX8_clear 17 (.getfield 19) 3 20 := ⟨by decide +kernel, rfl⟩
theorem dX8_clear_20 : Dn cX8_clear 20 (.iconst 1) 1 21 := ⟨by decide +kernel, rfl⟩
theorem dX8_clear_21 : Dn cX8_clear 21 (.putfield 78) 3 24 := ⟨by decide +kernel, rfl⟩
theorem dX8_clear_24 : Dn cX8_clear 24 (.iload_n 1) 1 25 := ⟨by decide +kernel, rfl⟩
theorem dX8_clear_25 : Dn cX8_clear 25 (.ireturn) 1 26 := ⟨by decide +kernel, rfl⟩
theorem dX8_dot_0 : Dn cX8_dot 0 (.aload_n 0) 1 1 := ⟨by decide +kernel, rfl⟩
theorem dX8_dot_1 : Dn cX8_dot 1 (.iload_n 1) 1 2 := ⟨by decide +kernel, rfl⟩
theorem dX8_dot_2 : Dn cX8_dot 2 (.iload_n 2) 1 3 := ⟨by decide +kernel, rfl⟩
theorem dX8_dot_3 : Dn cX8_dot 3 (.iload_n 3) 1 4 := ⟨by decide +kernel, rfl⟩
theorem dX8_dot_4 : Dn cX8_dot 4 (.invokevirtual 82) 3 7 := ⟨by decide +kernel, rfl⟩
theorem dX8_dot_7 : Dj cX8_dot 7 (fun o => .ifCond .ne o) (6) 3 10 13 := ⟨by decide +kernel, rfl, by decide⟩
theorem dX8_dot_10 : Dn cX8_dot 10 (.ldc 85) 2 12 := ⟨by decide +kernel, rfl⟩
theorem dX8_dot_12 : Dn cX8_dot 12 (.ireturn) 1 13 := ⟨by decide +kernel, rfl⟩
theorem dX8_dot_13 : Dn cX8_dot 13 (.iload 4) 2 15 := ⟨by decide +kernel, rfl⟩
theorem dX8_dot_15 : Dn cX8_dot 15 (.iconst (-1)) 1 16 := ⟨by decide +kernel, rfl⟩
theorem dX8_dot_16 : Dn cX8_dot 16 (.sipush 255) 3 19 := ⟨by decide +kernel, rfl⟩
theorem dX8_dot_19 : Dn cX8_dot 19 (.invokestatic 47) 3 22 := ⟨by decide +kernel, rfl⟩
theorem dX8_dot_22 : Dj cX8_dot 22 (fun o => .ifCond .ne o) (6) 3 25 28 := ⟨by decide +kernel, rfl, by decide⟩
theorem dX8_dot_25 : Dn cX8_dot 25 (.ldc 86) 2 27 := ⟨by decide +kernel, rfl⟩
theorem dX8_dot_27 : Dn cX8_dot 27 (.ireturn) 1 28 := ⟨by decide +kernel, rfl⟩
theorem dX8_dot_28 : Dn cX8_dot 28 (.aload_n 0) 1 29 := ⟨by decide +kernel, rfl⟩
theorem dX8_dot_29 : Dn cX8_dot 29 (.getfield 19) 3 32 := ⟨by decide +kernel, rfl⟩
theorem dX8_dot_32 : Dn cX8_dot 32 (.getfield 58) 3 35 := ⟨by decide +kernel, rfl⟩
theorem dX8_dot_35 : Dn cX8_dot 35 (.iload_n 1) 1 36 := ⟨by decide +kernel, rfl⟩
theorem dX8_dot_36 : Dn cX8_dot 36 (.aaload) 1 37 := ⟨by decide +kernel, rfl⟩
theorem dX8_dot_37 : Dn cX8_dot 37 (.getfield 62) 3 40 := ⟨by decide +kernel, rfl⟩
theorem dX8_dot_40 : Dn cX8_dot 40 (.astore 5) 2 42 := ⟨by decide +kernel, rfl⟩
theorem dX8_dot_42 : Dn cX8_dot 42 (.aload 5) 2 44 := ⟨by decide +kernel, rfl⟩
theorem dX8_dot_44 : Dn cX8_dot 44 (.iload_n 2) 1 45 := ⟨by decide +kernel, rfl⟩
theorem dX8_dot_45 : Dn cX8_dot 45 (.iload_n 3) 1 46 := ⟨by decide +kernel, rfl⟩
theorem dX8_dot_46 : Dn cX8_dot 46 (.invokevirtual 87) 3 49 := ⟨by decide +kernel, rfl⟩
theorem dX8_dot_49 : Dn cX8_dot 49 (.istore 6) 2 51 := ⟨by decide +kernel, rfl⟩
theorem dX8_dot_51 : Dn cX8_dot 51 (.aload 5) 2 53 := ⟨by decide +kernel, rfl⟩
theorem dX8_dot_53 : Dn cX8_dot 53 (.iload_n 2) 1 54 := ⟨by decide +kernel, rfl⟩
theorem dX8_dot_54 : Dn cX8_dot 54 (.iload_n 3) 1 55 := ⟨by decide +kernel, rfl⟩
theorem dX8_dot_55 : Dn cX8_dot 55 (.iload 4) 2 57 := ⟨by decide +kernel, rfl⟩
theorem dX8_dot_57 : Dn cX8_dot 57 (.invokevirtual 90) 3 60 := ⟨by decide +kernel, rfl⟩
theorem dX8_dot_60 : Dn cX8_dot 60 (.aload_n 0) 1 61 := ⟨by decide +kernel, rfl⟩
theorem dX8_dot_61 : Dn cX8_dot 61 (.getfield 19) 3 64 := ⟨by decide +kernel, rfl⟩
theorem dX8_dot_64 : Dn cX8_dot 64 (.iconst 1) 1 65 := ⟨by decide +kernel, rfl⟩
theorem dX8_dot_65 : Dn cX8_dot 65 (.putfield 78) 3 68 := ⟨by decide +kernel, rfl⟩
theorem dX8_dot_68 : Dn cX8_dot 68 (.iload 6) 2 70 := ⟨by decide +kernel, rfl⟩
theorem dX8_dot_70 : Dn cX8_dot 70 (.ireturn) 1 71 := ⟨by decide +kernel, rfl⟩
theorem dX8_at_0 : Dn cX8_at 0 (.aload_n 0) 1 1 := ⟨by decide +kernel, rfl⟩
theorem dX8_at_1 : Dn cX8_at 1 (.iload_n 1) 1 2 := ⟨by decide +kernel, rfl⟩
theorem dX8_at_2 : Dn cX8_at 2 (.iload_n 2) 1 3 := ⟨by decide +kernel, rfl⟩
theorem dX8_at_3 : Dn cX8_at 3 (.iload_n 3) 1 4 := ⟨by decide +kernel, rfl⟩
theorem dX8_at_4 : Dn cX8_at 4 (.invokevirtual 82) 3 7 := ⟨by decide +kernel, rfl⟩
theorem dX8_at_7 : Dj cX8_at 7 (fun o => .ifCond .eq o) (23) 3 10 30 := ⟨by decide +kernel, rfl, by decide⟩
theorem dX8_at_10 : Dn cX8_at 10 (.aload_n 0) 1 11 := ⟨by decide +kernel, rfl⟩
theorem dX8_at_11 : Dn cX8_at 11 (.getfield 19) 3 14 := ⟨by decide +kernel, rfl⟩
theorem dX8_at_14 : Dn cX8_at 14 (.getfield 58) 3 17 := ⟨by decide +kernel, rfl⟩
theorem dX8_at_17 : Dn cX8_at 17 (.iload_n 1) 1 18 := ⟨by decide +kernel, rfl⟩
theorem dX8_at_18 : Dn cX8_at 18 (.aaload) 1 19 := ⟨by decide +kernel, rfl⟩
theorem dX8_at_19 : Dn cX8_at 19 (.getfield 62) 3 22 := ⟨by decide +kernel, rfl⟩
theorem dX8_at_22 : Dn cX8_at 22 (.iload_n 2) 1 23 := ⟨by decide +kernel, rfl⟩
theorem dX8_at_23 : Dn cX8_at 23 (.iload_n 3) 1 24 := ⟨by decide +kernel, rfl⟩
theorem dX8_at_24 : Dn cX8_at 24 (.invokevirtual 87) 3 27 := ⟨by decide +kernel, rfl⟩
theorem dX8_at_27 : Dj cX8_at 27 .goto (5) 3 30 32 := ⟨by decide +kernel, rfl, by decide⟩
theorem dX8_at_30 : Dn cX8_at 30 (.ldc 85) 2 32 := ⟨by decide +kernel, rfl⟩
theorem dX8_at_32 : Dn cX8_at 32 (.ireturn) 1 33 := ⟨by decide +kernel, rfl⟩
theorem dX8_rules_0 : Dn cX8_rules 0 (.iload_n 1) 1 1 := ⟨by decide +kernel, rfl⟩
theorem dX8_rules_1 : Dn cX8_rules 1 (.iconst 1) 1 2 := ⟨by decide +kernel, rfl⟩
theorem dX8_rules_2 : Dn cX8_rules 2 (.ldc 94) 2 4 := ⟨by decide +kernel, rfl⟩
theorem dX8_rules_4 : Dn cX8_rules 4 (.invokestatic 47) 3 7 := ⟨by decide +kernel, rfl⟩
theorem dX8_rules_7 : Dj cX8_rules 7 (fun o => .ifCond .eq o) (13) 3 10 20 := ⟨by decide +kernel, rfl, by decide⟩
theorem dX8_rules_10 : Dn cX8_rules 10 (.iload_n 2) 1 11 := ⟨by decide +kernel, rfl⟩
theorem dX8_rules_11 : Dn cX8_rules 11 (.iconst 0) 1 12 := ⟨by decide +kernel, rfl⟩
theorem dX8_rules_12 : Dn cX8_rules 12 (.bipush 12) 2 14 := ⟨by decide +kernel, rfl⟩
theorem dX8_rules_14 : Dn cX8_rules 14 (.invokestatic 47) 3 17 := ⟨by decide +kernel, rfl⟩
theorem dX8_rules_17 : Dj cX8_rules 17 (fun o => .ifCond .ne o) (6) 3 20 23 := ⟨by decide +kernel, rfl, by decide⟩
theorem dX8_rules_20 : Dn cX8_rules 20 (.bipush (-2)) 2 22 := ⟨by decide +kernel, rfl⟩
theorem dX8_rules_22 : Dn cX8_rules 22 (.ireturn) 1 23 := ⟨by decide +kernel, rfl⟩
theorem dX8_rules_23 : Dn cX8_rules 23 (.aload_n 0) 1 24 := ⟨by decide +kernel, rfl⟩
theorem dX8_rules_24 : Dn cX8_rules 24 (.iload_n 1) 1 25 := ⟨by decide +kernel, rfl⟩
theorem dX8_rules_25 : Dn cX8_rules 25 (.putfield 37) 3 28 := ⟨by decide +kernel, rfl⟩
theorem dX8_rules_28 : Dn cX8_rules 28 (.aload_n 0) 1 29 := ⟨by decide +kernel, rfl⟩
theorem dX8_rules_29 : Dn cX8_rules 29 (.iload_n 2) 1 30 := ⟨by decide +kernel, rfl⟩
theorem dX8_rules_30 : Dn cX8_rules 30 (.putfield 41) 3 33 := ⟨by decide +kernel, rfl⟩
theorem dX8_rules_33 : Dn cX8_rules 33 (.aload_n 0) 1 34 := ⟨by decide +kernel, rfl⟩
theorem dX8_rules_34 : Dn cX8_rules 34 (.getfield 19) 3 37 := ⟨by decide +kernel, rfl⟩
theorem dX8_rules_37 : Dn cX8_rules 37 (.iconst 1) 1 38 := ⟨by decide +kernel, rfl⟩
theorem dX8_rules_38 : Dn cX8_rules 38 (.putfield 78) 3 41 := ⟨by decide +kernel, rfl⟩
theorem dX8_rules_41 : Dn cX8_rules 41 (.iconst 1) 1 42 := ⟨by decide +kernel, rfl⟩
theorem dX8_rules_42 : Dn cX8_rules 42 (.ireturn) 1 43 := ⟨by decide +kernel, rfl⟩
theorem dX8_score_0 : Dn cX8_score 0 (.aload_n 0) 1 1 := ⟨by decide +kernel, rfl⟩
theorem dX8_score_1 : Dn cX8_score 1 (.iload_n 1) 1 2 := ⟨by decide +kernel, rfl⟩
theorem dX8_score_2 : Dn cX8_score 2 (.iload_n 2) 1 3 := ⟨by decide +kernel, rfl⟩
theorem dX8_score_3 : Dn cX8_score 3 (.iload_n 3) 1 4 := ⟨by decide +kernel, rfl⟩
theorem dX8_score_4 : Dn cX8_score 4 (.invokevirtual 82) 3 7 := ⟨by decide +kernel, rfl⟩
theorem dX8_score_7 : Dj cX8_score 7 (fun o => .ifCond .eq o) (23) 3 10 30 := ⟨by decide +kernel, rfl, by decide⟩
theorem dX8_score_10 : Dn cX8_score 10 (.aload_n 0) 1 11 := ⟨by decide +kernel, rfl⟩
theorem dX8_score_11 : Dn cX8_score 11 (.getfield 19) 3 14 := ⟨by decide +kernel, rfl⟩
theorem dX8_score_14 : Dn cX8_score 14 (.getfield 58) 3 17 := ⟨by decide +kernel, rfl⟩
theorem dX8_score_17 : Dn cX8_score 17 (.iload_n 1) 1 18 := ⟨by decide +kernel, rfl⟩
theorem dX8_score_18 : Dn cX8_score 18 (.aaload) 1 19 := ⟨by decide +kernel, rfl⟩
theorem dX8_score_19 : Dn cX8_score 19 (.getfield 62) 3 22 := ⟨by decide +kernel, rfl⟩
theorem dX8_score_22 : Dn cX8_score 22 (.iload_n 2) 1 23 := ⟨by decide +kernel, rfl⟩
theorem dX8_score_23 : Dn cX8_score 23 (.iload_n 3) 1 24 := ⟨by decide +kernel, rfl⟩
theorem dX8_score_24 : Dn cX8_score 24 (.invokevirtual 95) 3 27 := ⟨by decide +kernel, rfl⟩
theorem dX8_score_27 : Dj cX8_score 27 .goto (4) 3 30 31 := ⟨by decide +kernel, rfl, by decide⟩
theorem dX8_score_30 : Dn cX8_score 30 (.iconst (-1)) 1 31 := ⟨by decide +kernel, rfl⟩
theorem dX8_score_31 : Dn cX8_score 31 (.ireturn) 1 32 := ⟨by decide +kernel, rfl⟩
theorem dX8_marks_0 : Dn cX8_marks 0 (.aload_n 0) 1 1 := ⟨by decide +kernel, rfl⟩
theorem dX8_marks_1 : Dn cX8_marks 1 (.iload_n 1) 1 2 := ⟨by decide +kernel, rfl⟩
theorem dX8_marks_2 : Dn cX8_marks 2 (.invokevirtual 98) 3 5 := ⟨by decide +kernel, rfl⟩
theorem dX8_marks_5 : Dj cX8_marks 5 (fun o => .ifCond .ne o) (5) 3 8 10 := ⟨by decide +kernel, rfl, by decide⟩
theorem dX8_marks_8 : Dn cX8_marks 8 (.iconst (-1)) 1 9 := ⟨by decide +kernel, rfl⟩
theorem dX8_marks_9 : Dn cX8_marks 9 (.ireturn) 1 10 := ⟨by decide +kernel, rfl⟩
theorem dX8_marks_10 : Dn cX8_marks 10 (.aload_n 0) 1 11 := ⟨by decide +kernel, rfl⟩
theorem dX8_marks_11 : Dn cX8_marks 11 (.getfield 19) 3 14 := ⟨by decide +kernel, rfl⟩
theorem dX8_marks_14 : Dn cX8_marks 14 (.aload_n 0) 1 15 := ⟨by decide +kernel, rfl⟩
theorem dX8_marks_15 : Dn cX8_marks 15 (.getfield 37) 3 18 := ⟨by decide +kernel, rfl⟩
theorem dX8_marks_18 : Dn cX8_marks 18 (.aload_n 0) 1 19 := ⟨by decide +kernel, rfl⟩
theorem dX8_marks_19 : Dn cX8_marks 19 (.getfield 41) 3 22 := ⟨by decide +kernel, rfl⟩
theorem dX8_marks_22 : Dn cX8_marks 22 (.invokevirtual 102) 3 25 := ⟨by decide +kernel, rfl⟩
theorem dX8_marks_25 : Dn cX8_marks 25 (.aload_n 0) 1 26 := ⟨by decide +kernel, rfl⟩
theorem dX8_marks_26 : Dn cX8_marks 26 (.getfield 19) 3 29 := ⟨by decide +kernel, rfl⟩
theorem dX8_marks_29 : Dn cX8_marks 29 (.getfield 58) 3 32 := ⟨by decide +kernel, rfl⟩
theorem dX8_marks_32 : Dn cX8_marks 32 (.iload_n 1) 1 33 := ⟨by decide +kernel, rfl⟩
theorem dX8_marks_33 : Dn cX8_marks 33 (.aaload) 1 34 := ⟨by decide +kernel, rfl⟩
theorem dX8_marks_34 : Dn cX8_marks 34 (.getfield 105) 3 37 := ⟨by decide +kernel, rfl⟩
theorem dX8_marks_37 : Dn cX8_marks 37 (.getfield 109) 3 40 := ⟨by decide +kernel, rfl⟩
theorem dX8_marks_40 : Dn cX8_marks 40 (.ireturn) 1 41 := ⟨by decide +kernel, rfl⟩
theorem dX8_mark_0 : Dn cX8_mark 0 (.aload_n 0) 1 1 := ⟨by decide +kernel, rfl⟩
theorem dX8_mark_1 : Dn cX8_mark 1 (.getfield 19) 3 4 := ⟨by decide +kernel, rfl⟩
theorem dX8_mark_4 : Dn cX8_mark 4 (.aload_n 0) 1 5 := ⟨by decide +kernel, rfl⟩
theorem dX8_mark_5 : Dn cX8_mark 5 (.getfield 37) 3 8 := ⟨by decide +kernel, rfl⟩
theorem dX8_mark_8 : Dn cX8_mark 8 (.aload_n 0) 1 9 := ⟨by decide +kernel, rfl⟩
theorem dX8_mark_9 : Dn cX8_mark 9 (.getfield 41) 3 12 := ⟨by decide +kernel, rfl⟩
theorem dX8_mark_12 : Dn cX8_mark 12 (.invokevirtual 102) 3 15 := ⟨by decide +kernel, rfl⟩
theorem dX8_mark_15 : Dn cX8_mark 15 (.aload_n 0) 1 16 := ⟨by decide +kernel, rfl⟩
theorem dX8_mark_16 : Dn cX8_mark 16 (.iload_n 1) 1 17 := ⟨by decide +kernel, rfl⟩
theorem dX8_mark_17 : Dn cX8_mark 17 (.iload_n 2) 1 18 := ⟨by decide +kernel, rfl⟩
theorem dX8_mark_18 : Dn cX8_mark 18 (.invokevirtual 112) 3 21 := ⟨by decide +kernel, rfl⟩
theorem dX8_mark_21 : Dj cX8_mark 21 (fun o => .ifCond .ne o) (5) 3 24 26 := ⟨by decide +kernel, rfl, by decide⟩
theorem dX8_mark_24 : Dn cX8_mark 24 (.iconst (-1)) 1 25 := ⟨by decide +kernel, rfl⟩
theorem dX8_mark_25 : Dn cX8_mark 25 (.ireturn) 1 26 := ⟨by decide +kernel, rfl⟩
theorem dX8_mark_26 : Dn cX8_mark 26 (.aload_n 0) 1 27 := ⟨by decide +kernel, rfl⟩
theorem dX8_mark_27 : Dn cX8_mark 27 (.getfield 19) 3 30 := ⟨by decide +kernel, rfl⟩
theorem dX8_mark_30 : Dn cX8_mark 30 (.getfield 58) 3 33 := ⟨by decide +kernel, rfl⟩
theorem dX8_mark_33 : Dn cX8_mark 33 (.iload_n 1) 1 34 := ⟨by decide +kernel, rfl⟩
theorem dX8_mark_34 : Dn cX8_mark 34 (.aaload) 1 35 := ⟨by decide +kernel, rfl⟩
theorem dX8_mark_35 : Dn cX8_mark 35 (.getfield 105) 3 38 := ⟨by decide +kernel, rfl⟩
theorem dX8_mark_38 : Dn cX8_mark 38 (.astore 4) 2 40 := ⟨by decide +kernel, rfl⟩
theorem dX8_mark_40 : Dn cX8_mark 40 (.iload_n 3) 1 41 := ⟨by decide +kernel, rfl⟩
theorem dX8_mark_41 : Dn cX8_mark 41 (.tableswitch 63 0 3 #[31, 39, 47, 55]) 31 72 := ⟨by decide +kernel, rfl⟩
theorem dX8_mark_72 : Dn cX8_mark 72 (.aload 4) 2 74 := ⟨by decide +kernel, rfl⟩
theorem dX8_mark_74 : Dn cX8_mark 74 (.getfield 116) 3 77 := ⟨by decide +kernel, rfl⟩
theorem dX8_mark_77 : Dn cX8_mark 77 (.iload_n 2) 1 78 := ⟨by decide +kernel, rfl⟩
theorem dX8_mark_78 : Dn cX8_mark 78 (.iaload) 1 79 := ⟨by decide +kernel, rfl⟩
theorem dX8_mark_79 : Dn cX8_mark 79 (.ireturn) 1 80 := ⟨by decide +kernel, rfl⟩
theorem dX8_mark_80 : Dn cX8_mark 80 (.aload 4) 2 82 := ⟨by decide +kernel, rfl⟩
theorem dX8_mark_82 : Dn cX8_mark 82 (.getfield 120) 3 85 := ⟨by decide +kernel, rfl⟩
theorem dX8_mark_85 : Dn cX8_mark 85 (.iload_n 2) 1 86 := ⟨by decide +kernel, rfl⟩
theorem dX8_mark_86 : Dn cX8_mark 86 (.iaload) 1 87 := ⟨by decide +kernel, rfl⟩
theorem dX8_mark_87 : Dn cX8_mark 87 (.ireturn) 1 88 := ⟨by decide +kernel, rfl⟩
theorem dX8_mark_88 : Dn cX8_mark 88 (.aload 4) 2 90 := ⟨by decide +kernel, rfl⟩
theorem dX8_mark_90 : Dn cX8_mark 90 (.getfield 123) 3 93 := ⟨by decide +kernel, rfl⟩
theorem dX8_mark_93 : Dn cX8_mark 93 (.iload_n 2) 1 94 := ⟨by decide +kernel, rfl⟩
theorem dX8_mark_94 : Dn cX8_mark 94 (.iaload) 1 95 := ⟨by decide +kernel, rfl⟩
theorem dX8_mark_95 : Dn cX8_mark 95 (.ireturn) 1 96 := ⟨by decide +kernel, rfl⟩
theorem dX8_mark_96 : Dn cX8_mark 96 (.aload 4) 2 98 := ⟨by decide +kernel, rfl⟩
theorem dX8_mark_98 : Dn cX8_mark 98 (.getfield 126) 3 101 := ⟨by decide +kernel, rfl⟩
theorem dX8_mark_101 : Dn cX8_mark 101 (.iload_n 2) 1 102 := ⟨by decide +kernel, rfl⟩
theorem dX8_mark_102 : Dn cX8_mark 102 (.iaload) 1 103 := ⟨by decide +kernel, rfl⟩
theorem dX8_mark_103 : Dn cX8_mark 103 (.ireturn) 1 104 := ⟨by decide +kernel, rfl⟩
theorem dX8_mark_104 : Dn cX8_mark 104 (.bipush (-2)) 2 106 := ⟨by decide +kernel, rfl⟩
theorem dX8_mark_106 : Dn cX8_mark 106 (.ireturn) 1 107 := ⟨by decide +kernel, rfl⟩
theorem dX8_match_0 : Dn cX8_match 0 (.aload_n 0) 1 1 := ⟨by decide +kernel, rfl⟩
theorem dX8_match_1 : Dn cX8_match 1 (.getfield 19) 3 4 := ⟨by decide +kernel, rfl⟩
theorem dX8_match_4 : Dn cX8_match 4 (.aload_n 0) 1 5 := ⟨by decide +kernel, rfl⟩
theorem dX8_match_5 : Dn cX8_match 5 (.getfield 37) 3 8 := ⟨by decide +kernel, rfl⟩
theorem dX8_match_8 : Dn cX8_match 8 (.aload_n 0) 1 9 := ⟨by decide +kernel, rfl⟩
theorem dX8_match_9 : Dn cX8_match 9 (.getfield 41) 3 12 := ⟨by decide +kernel, rfl⟩
theorem dX8_match_12 : Dn cX8_match 12 (.invokevirtual 102) 3 15 := ⟨by decide +kernel, rfl⟩
theorem dX8_match_15 : Dn cX8_match 15 (.aload_n 0) 1 16 := ⟨by decide +kernel, rfl⟩
theorem dX8_match_16 : Dn cX8_match 16 (.iload_n 1) 1 17 := ⟨by decide +kernel, rfl⟩
theorem dX8_match_17 : Dn cX8_match 17 (.iload_n 2) 1 18 := ⟨by decide +kernel, rfl⟩
theorem dX8_match_18 : Dn cX8_match 18 (.invokevirtual 112) 3 21 := ⟨by decide +kernel, rfl⟩
theorem dX8_match_21 : Dj cX8_match 21 (fun o => .ifCond .eq o) (12) 3 24 33 := ⟨by decide +kernel, rfl, by decide⟩
theorem dX8_match_24 : Dn cX8_match 24 (.aload_n 0) 1 25 := ⟨by decide +kernel, rfl⟩
theorem dX8_match_25 : Dn cX8_match 25 (.iload_n 1) 1 26 := ⟨by decide +kernel, rfl⟩
theorem dX8_match_26 : Dn cX8_match 26 (.iload_n 3) 1 27 := ⟨by decide +kernel, rfl⟩
theorem dX8_match_27 : Dn cX8_match 27 (.invokevirtual 129) 3 30 := ⟨by decide +kernel, rfl⟩
theorem dX8_match_30 : Dj cX8_match 30 (fun o => .ifCond .ne o) (5) 3 33 35 := ⟨by decide +kernel, rfl, by decide⟩
theorem dX8_match_33 : Dn cX8_match 33 (.iconst (-1)) 1 34 := ⟨by decide +kernel, rfl⟩
theorem dX8_match_34 : Dn cX8_match 34 (.ireturn) 1 35 := ⟨by decide +kernel, rfl⟩
theorem dX8_match_35 : Dn cX8_match 35 (.aload_n 0) 1 36 := ⟨by decide +kernel, rfl⟩
theorem dX8_match_36 : Dn cX8_match 36 (.getfield 19) 3 39 := ⟨by decide +kernel, rfl⟩
theorem dX8_match_39 : Dn cX8_match 39 (.iload_n 1) 1 40 := ⟨by decide +kernel, rfl⟩
theorem dX8_match_40 : Dn cX8_match 40 (.iload_n 3) 1 41 := ⟨by decide +kernel, rfl⟩
theorem dX8_match_41 : Dn cX8_match 41 (.invokevirtual 132) 3 44 := ⟨by decide +kernel, rfl⟩
theorem dX8_match_44 : Dn cX8_match 44 (.getfield 136) 3 47 := ⟨by decide +kernel, rfl⟩
theorem dX8_match_47 : Dn cX8_match 47 (.iload_n 2) 1 48 := ⟨by decide +kernel, rfl⟩
theorem dX8_match_48 : Dn cX8_match 48 (.iaload) 1 49 := ⟨by decide +kernel, rfl⟩
theorem dX8_match_49 : Dn cX8_match 49 (.ireturn) 1 50 := ⟨by decide +kernel, rfl⟩
theorem dX8_shift_0 : Dn cX8_shift 0 (.aload_n 0) 1 1 := ⟨by decide +kernel, rfl⟩
theorem dX8_shift_1 : Dn cX8_shift 1 (.iload_n 1) 1 2 := ⟨by decide +kernel, rfl⟩
theorem dX8_shift_2 : Dn cX8_shift 2 (.iload_n 2) 1 3 := ⟨by decide +kernel, rfl⟩
theorem dX8_shift_3 : Dn cX8_shift 3 (.invokevirtual 129) 3 6 := ⟨by decide +kernel, rfl⟩
theorem dX8_shift_6 : Dj cX8_shift 6 (fun o => .ifCond .ne o) (6) 3 9 12 := ⟨by decide +kernel, rfl, by decide⟩
theorem dX8_shift_9 : Dn cX8_shift 9 (.ldc 85) 2 11 := ⟨by decide +kernel, rfl⟩
theorem dX8_shift_11 : Dn cX8_shift 11 (.ireturn) 1 12 := ⟨by decide +kernel, rfl⟩
theorem dX8_shift_12 : Dn cX8_shift 12 (.iload_n 3) 1 13 := ⟨by decide +kernel, rfl⟩
theorem dX8_shift_13 : Dn cX8_shift 13 (.iconst 0) 1 14 := ⟨by decide +kernel, rfl⟩
theorem dX8_shift_14 : Dn cX8_shift 14 (.iconst 3) 1 15 := ⟨by decide +kernel, rfl⟩
theorem dX8_shift_15 : Dn cX8_shift 15 (.invokestatic 47) 3 18 := ⟨by decide +kernel, rfl⟩
theorem dX8_shift_18 : Dj cX8_shift 18 (fun o => .ifCond .ne o) (6) 3 21 24 := ⟨by decide +kernel, rfl, by decide⟩
theorem dX8_shift_21 : Dn cX8_shift 21 (.ldc 86) 2 23 := ⟨by decide +kernel, rfl⟩
theorem dX8_shift_23 : Dn cX8_shift 23 (.ireturn) 1 24 := ⟨by decide +kernel, rfl⟩
theorem dX8_shift_24 : Dn cX8_shift 24 (.aload_n 0) 1 25 := ⟨by decide +kernel, rfl⟩
theorem dX8_shift_25 : Dn cX8_shift 25 (.getfield 19) 3 28 := ⟨by decide +kernel, rfl⟩
theorem dX8_shift_28 : Dn cX8_shift 28 (.aload_n 0) 1 29 := ⟨by decide +kernel, rfl⟩
theorem dX8_shift_29 : Dn cX8_shift 29 (.getfield 37) 3 32 := ⟨by decide +kernel, rfl⟩
theorem dX8_shift_32 : Dn cX8_shift 32 (.aload_n 0) 1 33 := ⟨by decide +kernel, rfl⟩
theorem dX8_shift_33 : Dn cX8_shift 33 (.getfield 41) 3 36 := ⟨by decide +kernel, rfl⟩
theorem dX8_shift_36 : Dn cX8_shift 36 (.invokevirtual 102) 3 39 := ⟨by decide +kernel, rfl⟩
theorem dX8_shift_39 : Dn cX8_shift 39 (.aload_n 0) 1 40 := ⟨by decide +kernel, rfl⟩
theorem dX8_shift_40 : Dn cX8_shift 40 (.getfield 19) 3 43 := ⟨by decide +kernel, rfl⟩
theorem dX8_shift_43 : Dn cX8_shift 43 (.iload_n 1) 1 44 := ⟨by decide +kernel, rfl⟩
theorem dX8_shift_44 : Dn cX8_shift 44 (.iload_n 2) 1 45 := ⟨by decide +kernel, rfl⟩
theorem dX8_shift_45 : Dn cX8_shift 45 (.invokevirtual 132) 3 48 := ⟨by decide +kernel, rfl⟩
theorem dX8_shift_48 : Dn cX8_shift 48 (.astore 4) 2 50 := ⟨by decide +kernel, rfl⟩
theorem dX8_shift_50 : Dn cX8_shift 50 (.iload_n 3) 1 51 := ⟨by decide +kernel, rfl⟩
theorem dX8_shift_51 : Dn cX8_shift 51 (.iconst 3) 1 52 := ⟨by decide +kernel, rfl⟩
theorem dX8_shift_52 : Dj cX8_shift 52 (fun o => .if_icmp .ne o) (9) 3 55 61 := ⟨by decide +kernel, rfl, by decide⟩
theorem dX8_shift_55 : Dn cX8_shift 55 (.aload 4) 2 57 := ⟨by decide +kernel, rfl⟩
theorem dX8_shift_57 : Dn cX8_shift 57 (.getfield 141) 3 60 := ⟨by decide +kernel, rfl⟩
theorem dX8_shift_60 : Dn cX8_shift 60 (.ireturn) 1 61 := ⟨by decide +kernel, rfl⟩
theorem dX8_shift_61 : Dn cX8_shift 61 (.iload_n 3) 1 62 := ⟨by decide +kernel, rfl⟩
theorem dX8_shift_62 : Dn cX8_shift 62 (.iconst 2) 1 63 := ⟨by decide +kernel, rfl⟩
theorem dX8_shift_63 : Dj cX8_shift 63 (fun o => .if_icmp .ne o) (9) 3 66 72 := ⟨by decide +kernel, rfl, by decide⟩
theorem dX8_shift_66 : Dn cX8_shift 66 (.aload 4) 2 68 := ⟨by decide +kernel, rfl⟩
theorem dX8_shift_68 : Dn cX8_shift 68 (.getfield 144) 3 71 := ⟨by decide +kernel, rfl⟩
theorem dX8_shift_71 : Dn cX8_shift 71 (.ireturn) 1 72 := ⟨by decide +kernel, rfl⟩
theorem dX8_shift_72 : Dn cX8_shift 72 (.aload 4) 2 74 := ⟨by decide +kernel, rfl⟩
theorem dX8_shift_74 : Dn cX8_shift 74 (.getfield 144) 3 77 := ⟨by decide +kernel, rfl⟩
theorem dX8_shift_77 : Dj cX8_shift 77 (fun o => .ifCond .ne o) (6) 3 80 83 := ⟨by decide +kernel, rfl, by decide⟩
theorem dX8_shift_80 : Dn cX8_shift 80 (.ldc 147) 2 82 := ⟨by decide +kernel, rfl⟩
theorem dX8_shift_82 : Dn cX8_shift 82 (.ireturn) 1 83 := ⟨by decide +kernel, rfl⟩
theorem dX8_shift_83 : Dn cX8_shift 83 (.iload_n 3) 1 84 := ⟨by decide +kernel, rfl⟩
theorem dX8_shift_84 : Dj cX8_shift 84 (fun o => .ifCond .ne o) (11) 3 87 95 := ⟨by decide +kernel, rfl, by decide⟩
theorem dX8_shift_87 : Dn cX8_shift 87 (.aload 4) 2 89 := ⟨by decide +kernel, rfl⟩
theorem dX8_shift_89 : Dn cX8_shift 89 (.getfield 148) 3 92 := ⟨by decide +kernel, rfl⟩
theorem dX8_shift_92 : Dj cX8_shift 92 .goto (8) 3 95 100 := ⟨by decide +kernel, rfl, by decide⟩
theorem dX8_shift_95 : Dn cX8_shift 95 (.aload 4) 2 97 := ⟨by decide +kernel, rfl⟩
theorem dX8_shift_97 : Dn cX8_shift 97 (.getfield 151) 3 100 := ⟨by decide +kernel, rfl⟩
theorem dX8_shift_100 : Dn cX8_shift 100 (.ireturn) 1 101 := ⟨by decide +kernel, rfl⟩
theorem dX8_place_0 : Dn cX8_place 0 (.aload_n 0) 1 1 := ⟨by decide +kernel, rfl⟩
theorem dX8_place_1 : Dn cX8_place 1 (.iload_n 1) 1 2 := ⟨by decide +kernel, rfl⟩
theorem dX8_place_2 : Dn cX8_place 2 (.invokevirtual 98) 3 5 := ⟨by decide +kernel, rfl⟩
theorem dX8_place_5 : Dj cX8_place 5 (fun o => .ifCond .ne o) (6) 3 8 11 := ⟨by decide +kernel, rfl, by decide⟩
theorem dX8_place_8 : Dn cX8_place 8 (.ldc 85) 2 10 := ⟨by decide +kernel, rfl⟩
theorem dX8_place_10 : Dn cX8_place 10 (.ireturn) 1 11 := ⟨by decide +kernel, rfl⟩
theorem dX8_place_11 : Dn cX8_place 11 (.iload_n 2) 1 12 := ⟨by decide +kernel, rfl⟩
theorem dX8_place_12 : Dn cX8_place 12 (.iconst 0) 1 13 := ⟨by decide +kernel, rfl⟩
theorem dX8_place_13 : Dn cX8_place 13 (.iconst 5) 1 14 := ⟨by decide +kernel, rfl⟩
theorem dX8_place_14 : Dn cX8_place 14 (.invokestatic 47) 3 17 := ⟨by decide +kernel, rfl⟩
theorem dX8_place_17 : Dj cX8_place 17 (fun o => .ifCond .ne o) (6) 3 20 23 := ⟨by decide +kernel, rfl, by decide⟩
theorem dX8_place_20 : Dn cX8_place 20 (.ldc 86) 2 22 := ⟨by decide +kernel, rfl⟩
theorem dX8_place_22 : Dn cX8_place 22 (.ireturn) 1 23 := ⟨by decide +kernel, rfl⟩
theorem dX8_place_23 : Dn cX8_place 23 (.aload_n 0) 1 24 := ⟨by decide +kernel, rfl⟩
theorem dX8_place_24 : Dn cX8_place 24 (.getfield 19) 3 27 := ⟨by decide +kernel, rfl⟩
theorem dX8_place_27 : Dn cX8_place 27 (.aload_n 0) 1 28 := ⟨by decide +kernel, rfl⟩
theorem dX8_place_28 : Dn cX8_place 28 (.getfield 37) 3 31 := ⟨by decide +kernel, rfl⟩
theorem dX8_place_31 : Dn cX8_place 31 (.aload_n 0) 1 32 := ⟨by decide +kernel, rfl⟩
theorem dX8_place_32 : Dn cX8_place 32 (.getfield 41) 3 35 := ⟨by decide +kernel, rfl⟩
theorem dX8_place_35 : Dn cX8_place 35 (.invokevirtual 102) 3 38 := ⟨by decide +kernel, rfl⟩
theorem dX8_place_38 : Dn cX8_place 38 (.aload_n 0) 1 39 := ⟨by decide +kernel, rfl⟩
theorem dX8_place_39 : Dn cX8_place 39 (.getfield 19) 3 42 := ⟨by decide +kernel, rfl⟩
theorem dX8_place_42 : Dn cX8_place 42 (.getfield 58) 3 45 := ⟨by decide +kernel, rfl⟩
theorem dX8_place_45 : Dn cX8_place 45 (.iload_n 1) 1 46 := ⟨by decide +kernel, rfl⟩
theorem dX8_place_46 : Dn cX8_place 46 (.aaload) 1 47 := ⟨by decide +kernel, rfl⟩
theorem dX8_place_47 : Dn cX8_place 47 (.astore_n 3) 1 48 := ⟨by decide +kernel, rfl⟩
theorem dX8_place_48 : Dn cX8_place 48 (.iload_n 2) 1 49 := ⟨by decide +kernel, rfl⟩
theorem dX8_place_49 : Dn cX8_place 49 (.iconst 4) 1 50 := ⟨by decide +kernel, rfl⟩
theorem dX8_place_50 : Dj cX8_place 50 (fun o => .if_icmp .ne o) (11) 3 53 61 := ⟨by decide +kernel, rfl, by decide⟩
theorem dX8_place_53 : Dn cX8_place 53 (.aload_n 3) 1 54 := ⟨by decide +kernel, rfl⟩
theorem dX8_place_54 : Dn cX8_place 54 (.getfield 62) 3 57 := ⟨by decide +kernel, rfl⟩
theorem dX8_place_57 : Dn cX8_place 57 (.getfield 154) 3 60 := ⟨by decide +kernel, rfl⟩
theorem dX8_place_60 : Dn cX8_place 60 (.ireturn) 1 61 := ⟨by decide +kernel, rfl⟩
theorem dX8_place_61 : Dn cX8_place 61 (.iload_n 2) 1 62 := ⟨by decide +kernel, rfl⟩
theorem dX8_place_62 : Dn cX8_place 62 (.iconst 5) 1 63 := ⟨by decide +kernel, rfl⟩
theorem dX8_place_63 : Dj cX8_place 63 (fun o => .if_icmp .ne o) (11) 3 66 74 := ⟨by decide +kernel, rfl, by decide⟩
theorem dX8_place_66 : Dn cX8_place 66 (.aload_n 3) 1 67 := ⟨by decide +kernel, rfl⟩
theorem dX8_place_67 : Dn cX8_place 67 (.getfield 62) 3 70 := ⟨by decide +kernel, rfl⟩
theorem dX8_place_70 : Dn cX8_place 70 (.getfield 157) 3 73 := ⟨by decide +kernel, rfl⟩
theorem dX8_place_73 : Dn cX8_place 73 (.ireturn) 1 74 := ⟨by decide +kernel, rfl⟩
theorem dX8_place_74 : Dn cX8_place 74 (.aload_n 3) 1 75 := ⟨by decide +kernel, rfl⟩
theorem dX8_place_75 : Dn cX8_place 75 (.invokevirtual 160) 3 78 := ⟨by decide +kernel, rfl⟩
theorem dX8_place_78 : Dj cX8_place 78 (fun o => .ifCond .ne o) (6) 3 81 84 := ⟨by decide +kernel, rfl, by decide⟩
theorem dX8_place_81 : Dn cX8_place 81 (.ldc 147) 2 83 := ⟨by decide +kernel, rfl⟩
theorem dX8_place_83 : Dn cX8_place 83 (.ireturn) 1 84 := ⟨by decide +kernel, rfl⟩
theorem dX8_place_84 : Dn cX8_place 84 (.iload_n 2) 1 85 := ⟨by decide +kernel, rfl⟩
theorem dX8_place_85 : Dn cX8_place 85 (.tableswitch 42 0 2 #[27, 32, 37]) 27 112 := ⟨by decide +kernel, rfl⟩
theorem dX8_place_112 : Dn cX8_place 112 (.aload_n 3) 1 113 := ⟨by decide +kernel, rfl⟩
theorem dX8_place_113 : Dn cX8_place 113 (.getfield 164) 3 116 := ⟨by decide +kernel, rfl⟩
theorem dX8_place_116 : Dn cX8_place 116 (.ireturn) 1 117 := ⟨by decide +kernel, rfl⟩
theorem dX8_place_117 : Dn cX8_place 117 (.aload_n 3) 1 118 := ⟨by decide +kernel, rfl⟩
theorem dX8_place_118 : Dn cX8_place 118 (.getfield 165) 3 121 := ⟨by decide +kernel, rfl⟩
theorem dX8_place_121 : Dn cX8_place 121 (.ireturn) 1 122 := ⟨by decide +kernel, rfl⟩
theorem dX8_place_122 : Dn cX8_place 122 (.aload_n 3) 1 123 := ⟨by decide +kernel, rfl⟩
theorem dX8_place_123 : Dn cX8_place 123 (.getfield 166) 3 126 := ⟨by decide +kernel, rfl⟩
theorem dX8_place_126 : Dn cX8_place 126 (.ireturn) 1 127 := ⟨by decide +kernel, rfl⟩
theorem dX8_place_127 : Dn cX8_place 127 (.aload_n 3) 1 128 := ⟨by decide +kernel, rfl⟩
theorem dX8_place_128 : Dn cX8_place 128 (.getfield 169) 3 131 := ⟨by decide +kernel, rfl⟩
theorem dX8_place_131 : Dn cX8_place 131 (.ireturn) 1 132 := ⟨by decide +kernel, rfl⟩
theorem dX8_open_0 : Dn cX8_open 0 (.aload_n 0) 1 1 := ⟨by decide +kernel, rfl⟩
theorem dX8_open_1 : Dn cX8_open 1 (.getfield 19) 3 4 := ⟨by decide +kernel, rfl⟩
theorem dX8_open_4 : Dn cX8_open 4 (.aload_n 0) 1 5 := ⟨by decide +kernel, rfl⟩
theorem dX8_open_5 : Dn cX8_open 5 (.getfield 37) 3 8 := ⟨by decide +kernel, rfl⟩
theorem dX8_open_8 : Dn cX8_open 8 (.aload_n 0) 1 9 := ⟨by decide +kernel, rfl⟩
theorem dX8_open_9 : Dn cX8_open 9 (.getfield 41) 3 12 := ⟨by decide +kernel, rfl⟩
theorem dX8_open_12 : Dn cX8_open 12 (.invokevirtual 102) 3 15 := ⟨by decide +kernel, rfl⟩
theorem dX8_open_15 : Dn cX8_open 15 (.aload_n 0) 1 16 := ⟨by decide +kernel, rfl⟩
theorem dX8_open_16 : Dn cX8_open 16 (.getfield 19) 3 19 := ⟨by decide +kernel, rfl⟩
theorem dX8_open_19 : Dn cX8_open 19 (.invokevirtual 172) 3 22 := ⟨by decide +kernel, rfl⟩
theorem dX8_open_22 : Dn cX8_open 22 (.ireturn) 1 23 := ⟨by decide +kernel, rfl⟩
theorem dX8_joined_0 : Dn cX8_joined 0 (.aload_n 0) 1 1 := ⟨by decide +kernel, rfl⟩
theorem dX8_joined_1 : Dn cX8_joined 1 (.getfield 19) 3 4 := ⟨by decide +kernel, rfl⟩
theorem dX8_joined_4 : Dn cX8_joined 4 (.aload_n 0) 1 5 := ⟨by decide +kernel, rfl⟩
theorem dX8_joined_5 : Dn cX8_joined 5 (.getfield 37) 3 8 := ⟨by decide +kernel, rfl⟩
theorem dX8_joined_8 : Dn cX8_joined 8 (.aload_n 0) 1 9 := ⟨by decide +kernel, rfl⟩
theorem dX8_joined_9 : Dn cX8_joined 9 (.getfield 41) 3 12 := ⟨by decide +kernel, rfl⟩
theorem dX8_joined_12 : Dn cX8_joined 12 (.invokevirtual 102) 3 15 := ⟨by decide +kernel, rfl⟩
theorem dX8_joined_15 : Dn cX8_joined 15 (.aload_n 0) 1 16 := ⟨by decide +kernel, rfl⟩
theorem dX8_joined_16 : Dn cX8_joined 16 (.getfield 19) 3 19 := ⟨by decide +kernel, rfl⟩
theorem dX8_joined_19 : Dn cX8_joined 19 (.getfield 176) 3 22 := ⟨by decide +kernel, rfl⟩
theorem dX8_joined_22 : Dn cX8_joined 22 (.ireturn) 1 23 := ⟨by decide +kernel, rfl⟩
theorem dX8_overlap_0 : Dn cX8_overlap 0 (.aload_n 0) 1 1 := ⟨by decide +kernel, rfl⟩
theorem dX8_overlap_1 : Dn cX8_overlap 1 (.getfield 19) 3 4 := ⟨by decide +kernel, rfl⟩
theorem dX8_overlap_4 : Dn cX8_overlap 4 (.aload_n 0) 1 5 := ⟨by decide +kernel, rfl⟩
theorem dX8_overlap_5 : Dn cX8_overlap 5 (.getfield 37) 3 8 := ⟨by decide +kernel, rfl⟩
theorem dX8_overlap_8 : Dn cX8_overlap 8 (.aload_n 0) 1 9 := ⟨by decide +kernel, rfl⟩
theorem dX8_overlap_9 : Dn cX8_overlap 9 (.getfield 41) 3 12 := ⟨by decide +kernel, rfl⟩
theorem dX8_overlap_12 : Dn cX8_overlap 12 (.invokevirtual 102) 3 15 := ⟨by decide +kernel, rfl⟩
theorem dX8_overlap_15 : Dn cX8_overlap 15 (.aload_n 0) 1 16 := ⟨by decide +kernel, rfl⟩
theorem dX8_overlap_16 : Dn cX8_overlap 16 (.iload_n 1) 1 17 := ⟨by decide +kernel, rfl⟩
theorem dX8_overlap_17 : Dn cX8_overlap 17 (.iload_n 2) 1 18 := ⟨by decide +kernel, rfl⟩
theorem dX8_overlap_18 : Dn cX8_overlap 18 (.iload_n 3) 1 19 := ⟨by decide +kernel, rfl⟩
theorem dX8_overlap_19 : Dn cX8_overlap 19 (.iconst 0) 1 20 := ⟨by decide +kernel, rfl⟩
theorem dX8_overlap_20 : Dn cX8_overlap 20 (.iconst 3) 1 21 := ⟨by decide +kernel, rfl⟩
theorem dX8_overlap_21 : Dn cX8_overlap 21 (.invokestatic 47) 3 24 := ⟨by decide +kernel, rfl⟩
theorem dX8_overlap_24 : Dn cX8_overlap 24 (.invokevirtual 179) 3 27 := ⟨by decide +kernel, rfl⟩
theorem dX8_overlap_27 : Dn cX8_overlap 27 (.istore 4) 2 29 := ⟨by decide +kernel, rfl⟩
theorem dX8_overlap_29 : Dn cX8_overlap 29 (.iload 4) 2 31 := ⟨by decide +kernel, rfl⟩
theorem dX8_overlap_31 : Dj cX8_overlap 31 (fun o => .ifCond .eq o) (9) 3 34 40 := ⟨by decide +kernel, rfl, by decide⟩
theorem dX8_overlap_34 : Dn cX8_overlap 34 (.ldc 183) 2 36 := ⟨by decide +kernel, rfl⟩
theorem dX8_overlap_36 : Dn cX8_overlap 36 (.iload 4) 2 38 := ⟨by decide +kernel, rfl⟩
theorem dX8_overlap_38 : Dn cX8_overlap 38 (.iadd) 1 39 := ⟨by decide +kernel, rfl⟩
theorem dX8_overlap_39 : Dn cX8_overlap 39 (.ireturn) 1 40 := ⟨by decide +kernel, rfl⟩
theorem dX8_overlap_40 : Dn cX8_overlap 40 (.aload_n 0) 1 41 := ⟨by decide +kernel, rfl⟩
theorem dX8_overlap_41 : Dn cX8_overlap 41 (.getfield 26) 3 44 := ⟨by decide +kernel, rfl⟩
theorem dX8_overlap_44 : Dn cX8_overlap 44 (.aload_n 0) 1 45 := ⟨by decide +kernel, rfl⟩
theorem dX8_overlap_45 : Dn cX8_overlap 45 (.getfield 19) 3 48 := ⟨by decide +kernel, rfl⟩
theorem dX8_overlap_48 : Dn cX8_overlap 48 (.getfield 58) 3 51 := ⟨by decide +kernel, rfl⟩
theorem dX8_overlap_51 : Dn cX8_overlap 51 (.iload_n 1) 1 52 := ⟨by decide +kernel, rfl⟩
theorem dX8_overlap_52 : Dn cX8_overlap 52 (.aaload) 1 53 := ⟨by decide +kernel, rfl⟩
theorem dX8_overlap_53 : Dn cX8_overlap 53 (.aload_n 0) 1 54 := ⟨by decide +kernel, rfl⟩
theorem dX8_overlap_54 : Dn cX8_overlap 54 (.getfield 19) 3 57 := ⟨by decide +kernel, rfl⟩
theorem dX8_overlap_57 : Dn cX8_overlap 57 (.getfield 58) 3 60 := ⟨by decide +kernel, rfl⟩
theorem dX8_overlap_60 : Dn cX8_overlap 60 (.iload_n 2) 1 61 := ⟨by decide +kernel, rfl⟩
theorem dX8_overlap_61 : Dn cX8_overlap 61 (.aaload) 1 62 := ⟨by decide +kernel, rfl⟩
theorem dX8_overlap_62 : Dn cX8_overlap 62 (.invokevirtual 184) 3 65 := ⟨by decide +kernel, rfl⟩
theorem dX8_overlap_65 : Dn cX8_overlap 65 (.iload_n 3) 1 66 := ⟨by decide +kernel, rfl⟩
theorem dX8_overlap_66 : Dn cX8_overlap 66 (.tableswitch 50 0 2 #[26, 34, 42]) 26 92 := ⟨by decide +kernel, rfl⟩
theorem dX8_overlap_92 : Dn cX8_overlap 92 (.aload_n 0) 1 93 := ⟨by decide +kernel, rfl⟩
theorem dX8_overlap_93 : Dn cX8_overlap 93 (.getfield 26) 3 96 := ⟨by decide +kernel, rfl⟩
theorem dX8_overlap_96 : Dn cX8_overlap 96 (.getfield 188) 3 99 := ⟨by decide +kernel, rfl⟩
theorem dX8_overlap_99 : Dn cX8_overlap 99 (.ireturn) 1 100 := ⟨by decide +kernel, rfl⟩
theorem dX8_overlap_100 : Dn cX8_overlap 100 (.aload_n 0) 1 101 := ⟨by decide +kernel, rfl⟩
theorem dX8_overlap_101 : Dn cX8_overlap 101 (.getfield 26) 3 104 := ⟨by decide +kernel, rfl⟩
theorem dX8_overlap_104 : Dn cX8_overlap 104 (.getfield 189) 3 107 := ⟨by decide +kernel, rfl⟩
theorem dX8_overlap_107 : Dn cX8_overlap 107 (.ireturn) 1 108 := ⟨by decide +kernel, rfl⟩
theorem dX8_overlap_108 : Dn cX8_overlap 108 (.aload_n 0) 1 109 := ⟨by decide +kernel, rfl⟩
theorem dX8_overlap_109 : Dn cX8_overlap 109 (.getfield 26) 3 112 := ⟨by decide +kernel, rfl⟩
theorem dX8_overlap_112 : Dn cX8_overlap 112 (.getfield 190) 3 115 := ⟨by decide +kernel, rfl⟩
theorem dX8_overlap_115 : Dn cX8_overlap 115 (.ireturn) 1 116 := ⟨by decide +kernel, rfl⟩
theorem dX8_overlap_116 : Dn cX8_overlap 116 (.aload_n 0) 1 117 := ⟨by decide +kernel, rfl⟩
theorem dX8_overlap_117 : Dn cX8_overlap 117 (.getfield 26) 3 120 := ⟨by decide +kernel, rfl⟩
theorem dX8_overlap_120 : Dn cX8_overlap 120 (.getfield 191) 3 123 := ⟨by decide +kernel, rfl⟩
theorem dX8_overlap_123 : Dn cX8_overlap 123 (.ireturn) 1 124 := ⟨by decide +kernel, rfl⟩
theorem dX8_lights_0 : Dn cX8_lights 0 (.aload_n 0) 1 1 := ⟨by decide +kernel, rfl⟩
theorem dX8_lights_1 : Dn cX8_lights 1 (.getfield 19) 3 4 := ⟨by decide +kernel, rfl⟩
theorem dX8_lights_4 : Dn cX8_lights 4 (.aload_n 0) 1 5 := ⟨by decide +kernel, rfl⟩
theorem dX8_lights_5 : Dn cX8_lights 5 (.getfield 37) 3 8 := ⟨by decide +kernel, rfl⟩
theorem dX8_lights_8 : Dn cX8_lights 8 (.aload_n 0) 1 9 := ⟨by decide +kernel, rfl⟩
theorem dX8_lights_9 : Dn cX8_lights 9 (.getfield 41) 3 12 := ⟨by decide +kernel, rfl⟩
theorem dX8_lights_12 : Dn cX8_lights 12 (.invokevirtual 102) 3 15 := ⟨by decide +kernel, rfl⟩
theorem dX8_lights_15 : Dn cX8_lights 15 (.aload_n 0) 1 16 := ⟨by decide +kernel, rfl⟩
theorem dX8_lights_16 : Dn cX8_lights 16 (.iload_n 1) 1 17 := ⟨by decide +kernel, rfl⟩
theorem dX8_lights_17 : Dn cX8_lights 17 (.iload_n 2) 1 18 := ⟨by decide +kernel, rfl⟩
theorem dX8_lights_18 : Dn cX8_lights 18 (.iload_n 3) 1 19 := ⟨by decide +kernel, rfl⟩
theorem dX8_lights_19 : Dn cX8_lights 19 (.iconst 0) 1 20 := ⟨by decide +kernel, rfl⟩
theorem dX8_lights_20 : Dn cX8_lights 20 (.iconst 2) 1 21 := ⟨by decide +kernel, rfl⟩
theorem dX8_lights_21 : Dn cX8_lights 21 (.invokestatic 47) 3 24 := ⟨by decide +kernel, rfl⟩
theorem dX8_lights_24 : Dn cX8_lights 24 (.invokevirtual 179) 3 27 := ⟨by decide +kernel, rfl⟩
theorem dX8_lights_27 : Dn cX8_lights 27 (.istore 4) 2 29 := ⟨by decide +kernel, rfl⟩
theorem dX8_lights_29 : Dn cX8_lights 29 (.iload 4) 2 31 := ⟨by decide +kernel, rfl⟩
theorem dX8_lights_31 : Dj cX8_lights 31 (fun o => .ifCond .eq o) (9) 3 34 40 := ⟨by decide +kernel, rfl, by decide⟩
theorem dX8_lights_34 : Dn cX8_lights 34 (.ldc 183) 2 36 := ⟨by decide +kernel, rfl⟩
theorem dX8_lights_36 : Dn cX8_lights 36 (.iload 4) 2 38 := ⟨by decide +kernel, rfl⟩
theorem dX8_lights_38 : Dn cX8_lights 38 (.iadd) 1 39 := ⟨by decide +kernel, rfl⟩
theorem dX8_lights_39 : Dn cX8_lights 39 (.ireturn) 1 40 := ⟨by decide +kernel, rfl⟩
theorem dX8_lights_40 : Dn cX8_lights 40 (.aload_n 0) 1 41 := ⟨by decide +kernel, rfl⟩
theorem dX8_lights_41 : Dn cX8_lights 41 (.getfield 26) 3 44 := ⟨by decide +kernel, rfl⟩
theorem dX8_lights_44 : Dn cX8_lights 44 (.aload_n 0) 1 45 := ⟨by decide +kernel, rfl⟩
theorem dX8_lights_45 : Dn cX8_lights 45 (.getfield 19) 3 48 := ⟨by decide +kernel, rfl⟩
theorem dX8_lights_48 : Dn cX8_lights 48 (.getfield 58) 3 51 := ⟨by decide +kernel, rfl⟩
theorem dX8_lights_51 : Dn cX8_lights 51 (.iload_n 1) 1 52 := ⟨by decide +kernel, rfl⟩
theorem dX8_lights_52 : Dn cX8_lights 52 (.aaload) 1 53 := ⟨by decide +kernel, rfl⟩
theorem dX8_lights_53 : Dn cX8_lights 53 (.aload_n 0) 1 54 := ⟨by decide +kernel, rfl⟩
theorem dX8_lights_54 : Dn cX8_lights 54 (.getfield 19) 3 57 := ⟨by decide +kernel, rfl⟩
theorem dX8_lights_57 : Dn cX8_lights 57 (.getfield 58) 3 60 := ⟨by decide +kernel, rfl⟩
theorem dX8_lights_60 : Dn cX8_lights 60 (.iload_n 2) 1 61 := ⟨by decide +kernel, rfl⟩
theorem dX8_lights_61 : Dn cX8_lights 61 (.aaload) 1 62 := ⟨by decide +kernel, rfl⟩
theorem dX8_lights_62 : Dn cX8_lights 62 (.invokevirtual 184) 3 65 := ⟨by decide +kernel, rfl⟩
theorem dX8_lights_65 : Dn cX8_lights 65 (.aload_n 0) 1 66 := ⟨by decide +kernel, rfl⟩
theorem dX8_lights_66 : Dn cX8_lights 66 (.getfield 26) 3 69 := ⟨by decide +kernel, rfl⟩
theorem dX8_lights_69 : Dn cX8_lights 69 (.aload_n 0) 1 70 := ⟨by decide +kernel, rfl⟩
theorem dX8_lights_70 : Dn cX8_lights 70 (.getfield 19) 3 73 := ⟨by decide +kernel, rfl⟩
theorem dX8_lights_73 : Dn cX8_lights 73 (.getfield 58) 3 76 := ⟨by decide +kernel, rfl⟩
theorem dX8_lights_76 : Dn cX8_lights 76 (.iload_n 1) 1 77 := ⟨by decide +kernel, rfl⟩
theorem dX8_lights_77 : Dn cX8_lights 77 (.aaload) 1 78 := ⟨by decide +kernel, rfl⟩
theorem dX8_lights_78 : Dn cX8_lights 78 (.aload_n 0) 1 79 := ⟨by decide +kernel, rfl⟩
theorem dX8_lights_79 : Dn cX8_lights 79 (.getfield 19) 3 82 := ⟨by decide +kernel, rfl⟩
theorem dX8_lights_82 : Dn cX8_lights 82 (.getfield 58) 3 85 := ⟨by decide +kernel, rfl⟩
theorem dX8_lights_85 : Dn cX8_lights 85 (.iload_n 2) 1 86 := ⟨by decide +kernel, rfl⟩
theorem dX8_lights_86 : Dn cX8_lights 86 (.aaload) 1 87 := ⟨by decide +kernel, rfl⟩
theorem dX8_lights_87 : Dn cX8_lights 87 (.invokevirtual 192) 3 90 := ⟨by decide +kernel, rfl⟩
theorem dX8_lights_90 : Dn cX8_lights 90 (.iload_n 3) 1 91 := ⟨by decide +kernel, rfl⟩
theorem dX8_lights_91 : Dn cX8_lights 91 (.lookupswitch 41 #[(0, 25), (1, 33)]) 25 116 := ⟨by decide +kernel, rfl⟩
theorem dX8_lights_116 : Dn cX8_lights 116 (.aload_n 0) 1 117 := ⟨by decide +kernel, rfl⟩
theorem dX8_lights_117 : Dn cX8_lights 117 (.getfield 26) 3 120 := ⟨by decide +kernel, rfl⟩
theorem dX8_lights_120 : Dn cX8_lights 120 (.getfield 195) 3 123 := ⟨by decide +kernel, rfl⟩
theorem dX8_lights_123 : Dn cX8_lights 123 (.ireturn) 1 124 := ⟨by decide +kernel, rfl⟩
theorem dX8_lights_124 : Dn cX8_lights 124 (.aload_n 0) 1 125 := ⟨by decide +kernel, rfl⟩
theorem dX8_lights_125 : Dn cX8_lights 125 (.getfield 26) 3 128 := ⟨by decide +kernel, rfl⟩
theorem dX8_lights_128 : Dn cX8_lights 128 (.getfield 198) 3 131 := ⟨by decide +kernel, rfl⟩
theorem dX8_lights_131 : Dn cX8_lights 131 (.ireturn) 1 132 := ⟨by decide +kernel, rfl⟩
theorem dX8_lights_132 : Dn cX8_lights 132 (.aload_n 0) 1 133 := ⟨by decide +kernel, rfl⟩
theorem dX8_lights_133 : Dn cX8_lights 133 (.getfield 26) 3 136 := ⟨by decide +kernel, rfl⟩
theorem dX8_lights_136 : Dn cX8_lights 136 (.getfield 201) 3 139 := ⟨by decide +kernel, rfl⟩
theorem dX8_lights_139 : Dn cX8_lights 139 (.ireturn) 1 140 := ⟨by decide +kernel, rfl⟩
theorem dX8_seam_0 : Dn cX8_seam 0 (.aload_n 0) 1 1 := ⟨by decide +kernel, rfl⟩
theorem dX8_seam_1 : Dn cX8_seam 1 (.getfield 19) 3 4 := ⟨by decide +kernel, rfl⟩
theorem dX8_seam_4 : Dn cX8_seam 4 (.aload_n 0) 1 5 := ⟨by decide +kernel, rfl⟩
theorem dX8_seam_5 : Dn cX8_seam 5 (.getfield 37) 3 8 := ⟨by decide +kernel, rfl⟩
theorem dX8_seam_8 : Dn cX8_seam 8 (.aload_n 0) 1 9 := ⟨by decide +kernel, rfl⟩
theorem dX8_seam_9 : Dn cX8_seam 9 (.getfield 41) 3 12 := ⟨by decide +kernel, rfl⟩
theorem dX8_seam_12 : Dn cX8_seam 12 (.invokevirtual 102) 3 15 := ⟨by decide +kernel, rfl⟩
theorem dX8_seam_15 : Dn cX8_seam 15 (.aload_n 0) 1 16 := ⟨by decide +kernel, rfl⟩
theorem dX8_seam_16 : Dn cX8_seam 16 (.iload_n 1) 1 17 := ⟨by decide +kernel, rfl⟩
theorem dX8_seam_17 : Dn cX8_seam 17 (.iload_n 2) 1 18 := ⟨by decide +kernel, rfl⟩
theorem dX8_seam_18 : Dn cX8_seam 18 (.iconst 1) 1 19 := ⟨by decide +kernel, rfl⟩
theorem dX8_seam_19 : Dn cX8_seam 19 (.invokevirtual 179) 3 22 := ⟨by decide +kernel, rfl⟩
theorem dX8_seam_22 : Dn cX8_seam 22 (.istore 4) 2 24 := ⟨by decide +kernel, rfl⟩
theorem dX8_seam_24 : Dn cX8_seam 24 (.iload 4) 2 26 := ⟨by decide +kernel, rfl⟩
theorem dX8_seam_26 : Dj cX8_seam 26 (fun o => .ifCond .eq o) (6) 3 29 32 := ⟨by decide +kernel, rfl, by decide⟩
theorem dX8_seam_29 : Dn cX8_seam 29 (.iload 4) 2 31 := ⟨by decide +kernel, rfl⟩
theorem dX8_seam_31 : Dn cX8_seam 31 (.ireturn) 1 32 := ⟨by decide +kernel, rfl⟩
theorem dX8_seam_32 : Dn cX8_seam 32 (.aload_n 0) 1 33 := ⟨by decide +kernel, rfl⟩
theorem dX8_seam_33 : Dn cX8_seam 33 (.getfield 26) 3 36 := ⟨by decide +kernel, rfl⟩
theorem dX8_seam_36 : Dn cX8_seam 36 (.aload_n 0) 1 37 := ⟨by decide +kernel, rfl⟩
theorem dX8_seam_37 : Dn cX8_seam 37 (.getfield 19) 3 40 := ⟨by decide +kernel, rfl⟩
theorem dX8_seam_40 : Dn cX8_seam 40 (.getfield 58) 3 43 := ⟨by decide +kernel, rfl⟩
theorem dX8_seam_43 : Dn cX8_seam 43 (.iload_n 1) 1 44 := ⟨by decide +kernel, rfl⟩
theorem dX8_seam_44 : Dn cX8_seam 44 (.aaload) 1 45 := ⟨by decide +kernel, rfl⟩
theorem dX8_seam_45 : Dn cX8_seam 45 (.aload_n 0) 1 46 := ⟨by decide +kernel, rfl⟩
theorem dX8_seam_46 : Dn cX8_seam 46 (.getfield 19) 3 49 := ⟨by decide +kernel, rfl⟩
theorem dX8_seam_49 : Dn cX8_seam 49 (.getfield 58) 3 52 := ⟨by decide +kernel, rfl⟩
theorem dX8_seam_52 : Dn cX8_seam 52 (.iload_n 2) 1 53 := ⟨by decide +kernel, rfl⟩
theorem dX8_seam_53 : Dn cX8_seam 53 (.aaload) 1 54 := ⟨by decide +kernel, rfl⟩
theorem dX8_seam_54 : Dn cX8_seam 54 (.invokevirtual 184) 3 57 := ⟨by decide +kernel, rfl⟩
theorem dX8_seam_57 : Dn cX8_seam 57 (.aload_n 0) 1 58 := ⟨by decide +kernel, rfl⟩
theorem dX8_seam_58 : Dn cX8_seam 58 (.getfield 26) 3 61 := ⟨by decide +kernel, rfl⟩
theorem dX8_seam_61 : Dn cX8_seam 61 (.invokevirtual 204) 3 64 := ⟨by decide +kernel, rfl⟩
theorem dX8_seam_64 : Dj cX8_seam 64 (fun o => .ifCond .eq o) (20) 3 67 84 := ⟨by decide +kernel, rfl, by decide⟩
theorem dX8_seam_67 : Dn cX8_seam 67 (.iload_n 3) 1 68 := ⟨by decide +kernel, rfl⟩
theorem dX8_seam_68 : Dn cX8_seam 68 (.iconst (-1)) 1 69 := ⟨by decide +kernel, rfl⟩
theorem dX8_seam_69 : Dn cX8_seam 69 (.aload_n 0) 1 70 := ⟨by decide +kernel, rfl⟩
theorem dX8_seam_70 : Dn cX8_seam 70 (.getfield 26) 3 73 := ⟨by decide +kernel, rfl⟩
theorem dX8_seam_73 : Dn cX8_seam 73 (.getfield 191) 3 76 := ⟨by decide +kernel, rfl⟩
theorem dX8_seam_76 : Dn cX8_seam 76 (.iconst 1) 1 77 := ⟨by decide +kernel, rfl⟩
theorem dX8_seam_77 : Dn cX8_seam 77 (.isub) 1 78 := ⟨by decide +kernel, rfl⟩
theorem dX8_seam_78 : Dn cX8_seam 78 (.invokestatic 47) 3 81 := ⟨by decide +kernel, rfl⟩
theorem dX8_seam_81 : Dj cX8_seam 81 (fun o => .ifCond .ne o) (6) 3 84 87 := ⟨by decide +kernel, rfl, by decide⟩
theorem dX8_seam_84 : Dn cX8_seam 84 (.bipush (-6)) 2 86 := ⟨by decide +kernel, rfl⟩
theorem dX8_seam_86 : Dn cX8_seam 86 (.ireturn) 1 87 := ⟨by decide +kernel, rfl⟩
theorem dX8_seam_87 : Dn cX8_seam 87 (.aload_n 0) 1 88 := ⟨by decide +kernel, rfl⟩
theorem dX8_seam_88 : Dn cX8_seam 88 (.getfield 33) 3 91 := ⟨by decide +kernel, rfl⟩
theorem dX8_seam_91 : Dn cX8_seam 91 (.aload_n 0) 1 92 := ⟨by decide +kernel, rfl⟩
theorem dX8_seam_92 : Dn cX8_seam 92 (.getfield 26) 3 95 := ⟨by decide +kernel, rfl⟩
theorem dX8_seam_95 : Dn cX8_seam 95 (.aload_n 0) 1 96 := ⟨by decide +kernel, rfl⟩
theorem dX8_seam_96 : Dn cX8_seam 96 (.getfield 19) 3 99 := ⟨by decide +kernel, rfl⟩
theorem dX8_seam_99 : Dn cX8_seam 99 (.getfield 58) 3 102 := ⟨by decide +kernel, rfl⟩
theorem dX8_seam_102 : Dn cX8_seam 102 (.iload_n 1) 1 103 := ⟨by decide +kernel, rfl⟩
theorem dX8_seam_103 : Dn cX8_seam 103 (.aaload) 1 104 := ⟨by decide +kernel, rfl⟩
theorem dX8_seam_104 : Dn cX8_seam 104 (.aload_n 0) 1 105 := ⟨by decide +kernel, rfl⟩
theorem dX8_seam_105 : Dn cX8_seam 105 (.getfield 19) 3 108 := ⟨by decide +kernel, rfl⟩
theorem dX8_seam_108 : Dn cX8_seam 108 (.getfield 58) 3 111 := ⟨by decide +kernel, rfl⟩
theorem dX8_seam_111 : Dn cX8_seam 111 (.iload_n 2) 1 112 := ⟨by decide +kernel, rfl⟩
theorem dX8_seam_112 : Dn cX8_seam 112 (.aaload) 1 113 := ⟨by decide +kernel, rfl⟩
theorem dX8_seam_113 : Dn cX8_seam 113 (.invokevirtual 207) 3 116 := ⟨by decide +kernel, rfl⟩
theorem dX8_seam_116 : Dn cX8_seam 116 (.iload_n 3) 1 117 := ⟨by decide +kernel, rfl⟩
theorem dX8_seam_117 : Dn cX8_seam 117 (.iconst (-1)) 1 118 := ⟨by decide +kernel, rfl⟩
theorem dX8_seam_118 : Dj cX8_seam 118 (fun o => .if_icmp .ne o) (13) 3 121 131 := ⟨by decide +kernel, rfl, by decide⟩
theorem dX8_seam_121 : Dn cX8_seam 121 (.aload_n 0) 1 122 := ⟨by decide +kernel, rfl⟩
theorem dX8_seam_122 : Dn cX8_seam 122 (.getfield 33) 3 125 := ⟨by decide +kernel, rfl⟩
theorem dX8_seam_125 : Dn cX8_seam 125 (.getfield 210) 3 128 := ⟨by decide +kernel, rfl⟩
theorem dX8_seam_128 : Dj cX8_seam 128 .goto (12) 3 131 140 := ⟨by decide +kernel, rfl, by decide⟩
theorem dX8_seam_131 : Dn cX8_seam 131 (.aload_n 0) 1 132 := ⟨by decide +kernel, rfl⟩
theorem dX8_seam_132 : Dn cX8_seam 132 (.getfield 33) 3 135 := ⟨by decide +kernel, rfl⟩
theorem dX8_seam_135 : Dn cX8_seam 135 (.getfield 213) 3 138 := ⟨by decide +kernel, rfl⟩
theorem dX8_seam_138 : Dn cX8_seam 138 (.iload_n 3) 1 139 := ⟨by decide +kernel, rfl⟩
theorem dX8_seam_139 : Dn cX8_seam 139 (.iaload) 1 140 := ⟨by decide +kernel, rfl⟩
theorem dX8_seam_140 : Dn cX8_seam 140 (.ireturn) 1 141 := ⟨by decide +kernel, rfl⟩
theorem dX8_whole_0 : Dn cX8_whole 0 (.iload_n 3) 1 1 := ⟨by decide +kernel, rfl⟩
theorem dX8_whole_1 : Dn cX8_whole 1 (.iconst 0) 1 2 := ⟨by decide +kernel, rfl⟩
theorem dX8_whole_2 : Dn cX8_whole 2 (.iconst 1) 1 3 := ⟨by decide +kernel, rfl⟩
theorem dX8_whole_3 : Dn cX8_whole 3 (.invokestatic 47) 3 6 := ⟨by decide +kernel, rfl⟩
theorem dX8_whole_6 : Dj cX8_whole 6 (fun o => .ifCond .ne o) (6) 3 9 12 := ⟨by decide +kernel, rfl, by decide⟩
theorem dX8_whole_9 : Dn cX8_whole 9 (.bipush (-2)) 2 11 := ⟨by decide +kernel, rfl⟩
theorem dX8_whole_11 : Dn cX8_whole 11 (.ireturn) 1 12 := ⟨by decide +kernel, rfl⟩
theorem dX8_whole_12 : Dn cX8_whole 12 (.aload_n 0) 1 13 := ⟨by decide +kernel, rfl⟩
theorem dX8_whole_13 : Dn cX8_whole 13 (.getfield 19) 3 16 := ⟨by decide +kernel, rfl⟩
theorem dX8_whole_16 : Dn cX8_whole 16 (.aload_n 0) 1 17 := ⟨by decide +kernel, rfl⟩
theorem dX8_whole_17 : Dn cX8_whole 17 (.getfield 37) 3 20 := ⟨by decide +kernel, rfl⟩
theorem dX8_whole_20 : Dn cX8_whole 20 (.aload_n 0) 1 21 := ⟨by decide +kernel, rfl⟩
theorem dX8_whole_21 : Dn cX8_whole 21 (.getfield 41) 3 24 := ⟨by decide +kernel, rfl⟩
theorem dX8_whole_24 : Dn cX8_whole 24 (.invokevirtual 102) 3 27 := ⟨by decide +kernel, rfl⟩
theorem dX8_whole_27 : Dn cX8_whole 27 (.aload_n 0) 1 28 := ⟨by decide +kernel, rfl⟩
theorem dX8_whole_28 : Dn cX8_whole 28 (.getfield 19) 3 31 := ⟨by decide +kernel, rfl⟩
theorem dX8_whole_31 : Dn cX8_whole 31 (.iload_n 1) 1 32 := ⟨by decide +kernel, rfl⟩
theorem dX8_whole_32 : Dn cX8_whole 32 (.iload_n 2) 1 33 := ⟨by decide +kernel, rfl⟩
theorem dX8_whole_33 : Dn cX8_whole 33 (.invokevirtual 214) 3 36 := ⟨by decide +kernel, rfl⟩
theorem dX8_whole_36 : Dn cX8_whole 36 (.istore 4) 2 38 := ⟨by decide +kernel, rfl⟩
theorem dX8_whole_38 : Dn cX8_whole 38 (.aload_n 0) 1 39 := ⟨by decide +kernel, rfl⟩
theorem dX8_whole_39 : Dn cX8_whole 39 (.iload 4) 2 41 := ⟨by decide +kernel, rfl⟩
theorem dX8_whole_41 : Dn cX8_whole 41 (.invokevirtual 98) 3 44 := ⟨by decide +kernel, rfl⟩
theorem dX8_whole_44 : Dj cX8_whole 44 (fun o => .ifCond .ne o) (6) 3 47 50 := ⟨by decide +kernel, rfl, by decide⟩
theorem dX8_whole_47 : Dn cX8_whole 47 (.bipush (-6)) 2 49 := ⟨by decide +kernel, rfl⟩
theorem dX8_whole_49 : Dn cX8_whole 49 (.ireturn) 1 50 := ⟨by decide +kernel, rfl⟩
theorem dX8_whole_50 : Dn cX8_whole 50 (.iload_n 3) 1 51 := ⟨by decide +kernel, rfl⟩
theorem dX8_whole_51 : Dj cX8_whole 51 (fun o => .ifCond .ne o) (21) 3 54 72 := ⟨by decide +kernel, rfl, by decide⟩
theorem dX8_whole_54 : Dn cX8_whole 54 (.aload_n 0) 1 55 := ⟨by decide +kernel, rfl⟩
theorem dX8_whole_55 : Dn cX8_whole 55 (.getfield 19) 3 58 := ⟨by decide +kernel, rfl⟩
theorem dX8_whole_58 : Dn cX8_whole 58 (.getfield 58) 3 61 := ⟨by decide +kernel, rfl⟩
theorem dX8_whole_61 : Dn cX8_whole 61 (.iload 4) 2 63 := ⟨by decide +kernel, rfl⟩
theorem dX8_whole_63 : Dn cX8_whole 63 (.aaload) 1 64 := ⟨by decide +kernel, rfl⟩
theorem dX8_whole_64 : Dn cX8_whole 64 (.iload_n 1) 1 65 := ⟨by decide +kernel, rfl⟩
theorem dX8_whole_65 : Dn cX8_whole 65 (.iload_n 2) 1 66 := ⟨by decide +kernel, rfl⟩
theorem dX8_whole_66 : Dn cX8_whole 66 (.invokevirtual 217) 3 69 := ⟨by decide +kernel, rfl⟩
theorem dX8_whole_69 : Dj cX8_whole 69 .goto (5) 3 72 74 := ⟨by decide +kernel, rfl, by decide⟩
theorem dX8_whole_72 : Dn cX8_whole 72 (.iload 4) 2 74 := ⟨by decide +kernel, rfl⟩
theorem dX8_whole_74 : Dn cX8_whole 74 (.ireturn) 1 75 := ⟨by decide +kernel, rfl⟩
theorem dX8_extent_0 : Dn cX8_extent 0 (.iload_n 1) 1 1 := ⟨by decide +kernel, rfl⟩
theorem dX8_extent_1 : Dn cX8_extent 1 (.iconst 0) 1 2 := ⟨by decide +kernel, rfl⟩
theorem dX8_extent_2 : Dn cX8_extent 2 (.iconst 4) 1 3 := ⟨by decide +kernel, rfl⟩
theorem dX8_extent_3 : Dn cX8_extent 3 (.invokestatic 47) 3 6 := ⟨by decide +kernel, rfl⟩
theorem dX8_extent_6 : Dj cX8_extent 6 (fun o => .ifCond .ne o) (6) 3 9 12 := ⟨by decide +kernel, rfl, by decide⟩
theorem dX8_extent_9 : Dn cX8_extent 9 (.ldc 86) 2 11 := ⟨by decide +kernel, rfl⟩
theorem dX8_extent_11 : Dn cX8_extent 11 (.ireturn) 1 12 := ⟨by decide +kernel, rfl⟩
theorem dX8_extent_12 : Dn cX8_extent 12 (.aload_n 0) 1 13 := ⟨by decide +kernel, rfl⟩
theorem dX8_extent_13 : Dn cX8_extent 13 (.getfield 19) 3 16 := ⟨by decide +kernel, rfl⟩
theorem dX8_extent_16 : Dn cX8_extent 16 (.getfield 55) 3 19 := ⟨by decide +kernel, rfl⟩
theorem dX8_extent_19 : Dj cX8_extent 19 (fun o => .ifCond .ne o) (6) 3 22 25 := ⟨by decide +kernel, rfl, by decide⟩
theorem dX8_extent_22 : Dn cX8_extent 22 (.ldc 147) 2 24 := ⟨by decide +kernel, rfl⟩
theorem dX8_extent_24 : Dn cX8_extent 24 (.ireturn) 1 25 := ⟨by decide +kernel, rfl⟩
theorem dX8_extent_25 : Dn cX8_extent 25 (.aload_n 0) 1 26 := ⟨by decide +kernel, rfl⟩
theorem dX8_extent_26 : Dn cX8_extent 26 (.getfield 19) 3 29 := ⟨by decide +kernel, rfl⟩
theorem dX8_extent_29 : Dn cX8_extent 29 (.aload_n 0) 1 30 := ⟨by decide +kernel, rfl⟩
theorem dX8_extent_30 : Dn cX8_extent 30 (.getfield 37) 3 33 := ⟨by decide +kernel, rfl⟩
theorem dX8_extent_33 : Dn cX8_extent 33 (.aload_n 0) 1 34 := ⟨by decide +kernel, rfl⟩
theorem dX8_extent_34 : Dn cX8_extent 34 (.getfield 41) 3 37 := ⟨by decide +kernel, rfl⟩
theorem dX8_extent_37 : Dn cX8_extent 37 (.invokevirtual 102) 3 40 := ⟨by decide +kernel, rfl⟩
theorem dX8_extent_40 : Dn cX8_extent 40 (.iload_n 1) 1 41 := ⟨by decide +kernel, rfl⟩
theorem dX8_extent_41 : Dn cX8_extent 41 (.iconst 4) 1 42 := ⟨by decide +kernel, rfl⟩
theorem dX8_extent_42 : Dj cX8_extent 42 (fun o => .if_icmp .ne o) (13) 3 45 55 := ⟨by decide +kernel, rfl, by decide⟩
theorem dX8_extent_45 : Dn cX8_extent 45 (.aload_n 0) 1 46 := ⟨by decide +kernel, rfl⟩
theorem dX8_extent_46 : Dn cX8_extent 46 (.getfield 19) 3 49 := ⟨by decide +kernel, rfl⟩
theorem dX8_extent_49 : Dn cX8_extent 49 (.invokevirtual 220) 3 52 := ⟨by decide +kernel, rfl⟩
theorem dX8_extent_52 : Dj cX8_extent 52 .goto (11) 3 55 63 := ⟨by decide +kernel, rfl, by decide⟩
theorem dX8_extent_55 : Dn cX8_extent 55 (.aload_n 0) 1 56 := ⟨by decide +kernel, rfl⟩
theorem dX8_extent_56 : Dn cX8_extent 56 (.getfield 19) 3 59 := ⟨by decide +kernel, rfl⟩
theorem dX8_extent_59 : Dn cX8_extent 59 (.iload_n 1) 1 60 := ⟨by decide +kernel, rfl⟩
theorem dX8_extent_60 : Dn cX8_extent 60 (.invokevirtual 223) 3 63 := ⟨by decide +kernel, rfl⟩
theorem dX8_extent_63 : Dn cX8_extent 63 (.ireturn) 1 64 := ⟨by decide +kernel, rfl⟩
theorem dX8_told_0 : Dn cX8_told 0 (.iload_n 1) 1 1 := ⟨by decide +kernel, rfl⟩
theorem dX8_told_1 : Dn cX8_told 1 (.tableswitch 57 0 3 #[31, 39, 44, 49]) 31 32 := ⟨by decide +kernel, rfl⟩
theorem dX8_told_32 : Dn cX8_told 32 (.aload_n 0) 1 33 := ⟨by decide +kernel, rfl⟩
theorem dX8_told_33 : Dn cX8_told 33 (.getfield 19) 3 36 := ⟨by decide +kernel, rfl⟩
theorem dX8_told_36 : Dn cX8_told 36 (.getfield 55) 3 39 := ⟨by decide +kernel, rfl⟩
theorem dX8_told_39 : Dn cX8_told 39 (.ireturn) 1 40 := ⟨by decide +kernel, rfl⟩
theorem dX8_told_40 : Dn cX8_told 40 (.aload_n 0) 1 41 := ⟨by decide +kernel, rfl⟩
theorem dX8_told_41 : Dn cX8_told 41 (.getfield 37) 3 44 := ⟨by decide +kernel, rfl⟩
theorem dX8_told_44 : Dn cX8_told 44 (.ireturn) 1 45 := ⟨by decide +kernel, rfl⟩
theorem dX8_told_45 : Dn cX8_told 45 (.aload_n 0) 1 46 := ⟨by decide +kernel, rfl⟩
theorem dX8_told_46 : Dn cX8_told 46 (.getfield 41) 3 49 := ⟨by decide +kernel, rfl⟩
theorem dX8_told_49 : Dn cX8_told 49 (.ireturn) 1 50 := ⟨by decide +kernel, rfl⟩
theorem dX8_told_50 : Dn cX8_told 50 (.aload_n 0) 1 51 := ⟨by decide +kernel, rfl⟩
theorem dX8_told_51 : Dn cX8_told 51 (.getfield 12) 3 54 := ⟨by decide +kernel, rfl⟩
theorem dX8_told_54 : Dn cX8_told 54 (.getfield 44) 3 57 := ⟨by decide +kernel, rfl⟩
theorem dX8_told_57 : Dn cX8_told 57 (.ireturn) 1 58 := ⟨by decide +kernel, rfl⟩
theorem dX8_told_58 : Dn cX8_told 58 (.ldc 86) 2 60 := ⟨by decide +kernel, rfl⟩
theorem dX8_told_60 : Dn cX8_told 60 (.ireturn) 1 61 := ⟨by decide +kernel, rfl⟩
theorem dX8_within_0 : Dn cX8_within 0 (.iload_n 0) 1 1 := ⟨by decide +kernel, rfl⟩
theorem dX8_within_1 : Dn cX8_within 1 (.iload_n 1) 1 2 := ⟨by decide +kernel, rfl⟩
theorem dX8_within_2 : Dj cX8_within 2 (fun o => .if_icmp .lt o) (12) 3 5 14 := ⟨by decide +kernel, rfl, by decide⟩
theorem dX8_within_5 : Dn cX8_within 5 (.iload_n 0) 1 6 := ⟨by decide +kernel, rfl⟩
theorem dX8_within_6 : Dn cX8_within 6 (.iload_n 2) 1 7 := ⟨by decide +kernel, rfl⟩
theorem dX8_within_7 : Dj cX8_within 7 (fun o => .if_icmp .gt o) (7) 3 10 14 := ⟨by decide +kernel, rfl, by decide⟩
theorem dX8_within_10 : Dn cX8_within 10 (.iconst 1) 1 11 := ⟨by decide +kernel, rfl⟩
theorem dX8_within_11 : Dj cX8_within 11 .goto (4) 3 14 15 := ⟨by decide +kernel, rfl, by decide⟩
theorem dX8_within_14 : Dn cX8_within 14 (.iconst 0) 1 15 := ⟨by decide +kernel, rfl⟩
theorem dX8_within_15 : Dn cX8_within 15 (.ireturn) 1 16 := ⟨by decide +kernel, rfl⟩
theorem dX8_isPicture_0 : Dn cX8_isPicture 0 (.iload_n 1) 1 1 := ⟨by decide +kernel, rfl⟩
theorem dX8_isPicture_1 : Dn cX8_isPicture 1 (.iconst 0) 1 2 := ⟨by decide +kernel, rfl⟩
theorem dX8_isPicture_2 : Dn cX8_isPicture 2 (.aload_n 0) 1 3 := ⟨by decide +kernel, rfl⟩
theorem dX8_isPicture_3 : Dn cX8_isPicture 3 (.getfield 19) 3 6 := ⟨by decide +kernel, rfl⟩
theorem dX8_isPicture_6 : Dn cX8_isPicture 6 (.getfield 55) 3 9 := ⟨by decide +kernel, rfl⟩
theorem dX8_isPicture_9 : Dn cX8_isPicture 9 (.iconst 1) 1 10 := ⟨by decide +kernel, rfl⟩
theorem dX8_isPicture_10 : Dn cX8_isPicture 10 (.isub) 1 11 := ⟨by decide +kernel, rfl⟩
theorem dX8_isPicture_11 : Dn cX8_isPicture 11 (.invokestatic 47) 3 14 := ⟨by decide +kernel, rfl⟩
theorem dX8_isPicture_14 : Dn cX8_isPicture 14 (.ireturn) 1 15 := ⟨by decide +kernel, rfl⟩
theorem dX8_isDot_0 : Dn cX8_isDot 0 (.aload_n 0) 1 1 := ⟨by decide +kernel, rfl⟩
theorem dX8_isDot_1 : Dn cX8_isDot 1 (.iload_n 1) 1 2 := ⟨by decide +kernel, rfl⟩
theorem dX8_isDot_2 : Dn cX8_isDot 2 (.invokevirtual 98) 3 5 := ⟨by decide +kernel, rfl⟩
theorem dX8_isDot_5 : Dj cX8_isDot 5 (fun o => .ifCond .eq o) (27) 3 8 32 := ⟨by decide +kernel, rfl, by decide⟩
theorem dX8_isDot_8 : Dn cX8_isDot 8 (.aload_n 0) 1 9 := ⟨by decide +kernel, rfl⟩
theorem dX8_isDot_9 : Dn cX8_isDot 9 (.getfield 19) 3 12 := ⟨by decide +kernel, rfl⟩
theorem dX8_isDot_12 : Dn cX8_isDot 12 (.getfield 58) 3 15 := ⟨by decide +kernel, rfl⟩
theorem dX8_isDot_15 : Dn cX8_isDot 15 (.iload_n 1) 1 16 := ⟨by decide +kernel, rfl⟩
theorem dX8_isDot_16 : Dn cX8_isDot 16 (.aaload) 1 17 := ⟨by decide +kernel, rfl⟩
theorem dX8_isDot_17 : Dn cX8_isDot 17 (.getfield 62) 3 20 := ⟨by decide +kernel, rfl⟩
theorem dX8_isDot_20 : Dn cX8_isDot 20 (.iload_n 2) 1 21 := ⟨by decide +kernel, rfl⟩
theorem dX8_isDot_21 : Dn cX8_isDot 21 (.iload_n 3) 1 22 := ⟨by decide +kernel, rfl⟩
theorem dX8_isDot_22 : Dn cX8_isDot 22 (.invokevirtual 227) 3 25 := ⟨by decide +kernel, rfl⟩
theorem dX8_isDot_25 : Dj cX8_isDot 25 (fun o => .ifCond .eq o) (7) 3 28 32 := ⟨by decide +kernel, rfl, by decide⟩
theorem dX8_isDot_28 : Dn cX8_isDot 28 (.iconst 1) 1 29 := ⟨by decide +kernel, rfl⟩
theorem dX8_isDot_29 : Dj cX8_isDot 29 .goto (4) 3 32 33 := ⟨by decide +kernel, rfl, by decide⟩
theorem dX8_isDot_32 : Dn cX8_isDot 32 (.iconst 0) 1 33 := ⟨by decide +kernel, rfl⟩
theorem dX8_isDot_33 : Dn cX8_isDot 33 (.ireturn) 1 34 := ⟨by decide +kernel, rfl⟩
theorem dX8_isMark_0 : Dn cX8_isMark 0 (.aload_n 0) 1 1 := ⟨by decide +kernel, rfl⟩
theorem dX8_isMark_1 : Dn cX8_isMark 1 (.iload_n 1) 1 2 := ⟨by decide +kernel, rfl⟩
theorem dX8_isMark_2 : Dn cX8_isMark 2 (.invokevirtual 98) 3 5 := ⟨by decide +kernel, rfl⟩
theorem dX8_isMark_5 : Dj cX8_isMark 5 (fun o => .ifCond .eq o) (32) 3 8 37 := ⟨by decide +kernel, rfl, by decide⟩
theorem dX8_isMark_8 : Dn cX8_isMark 8 (.iload_n 2) 1 9 := ⟨by decide +kernel, rfl⟩
theorem dX8_isMark_9 : Dn cX8_isMark 9 (.iconst 0) 1 10 := ⟨by decide +kernel, rfl⟩
theorem dX8_isMark_10 : Dn cX8_isMark 10 (.aload_n 0) 1 11 := ⟨by decide +kernel, rfl⟩
theorem dX8_isMark_11 : Dn cX8_isMark 11 (.getfield 19) 3 14 := ⟨by decide +kernel, rfl⟩
theorem dX8_isMark_14 : Dn cX8_isMark 14 (.getfield 58) 3 17 := ⟨by decide +kernel, rfl⟩
theorem dX8_isMark_17 : Dn cX8_isMark 17 (.iload_n 1) 1 18 := ⟨by decide +kernel, rfl⟩
theorem dX8_isMark_18 : Dn cX8_isMark 18 (.aaload) 1 19 := ⟨by decide +kernel, rfl⟩
theorem dX8_isMark_19 : Dn cX8_isMark 19 (.getfield 105) 3 22 := ⟨by decide +kernel, rfl⟩
theorem dX8_isMark_22 : Dn cX8_isMark 22 (.getfield 109) 3 25 := ⟨by decide +kernel, rfl⟩
theorem dX8_isMark_25 : Dn cX8_isMark 25 (.iconst 1) 1 26 := ⟨by decide +kernel, rfl⟩
theorem dX8_isMark_26 : Dn cX8_isMark 26 (.isub) 1 27 := ⟨by decide +kernel, rfl⟩
theorem dX8_isMark_27 : Dn cX8_isMark 27 (.invokestatic 47) 3 30 := ⟨by decide +kernel, rfl⟩
theorem dX8_isMark_30 : Dj cX8_isMark 30 (fun o => .ifCond .eq o) (7) 3 33 37 := ⟨by decide +kernel, rfl, by decide⟩
theorem dX8_isMark_33 : Dn cX8_isMark 33 (.iconst 1) 1 34 := ⟨by decide +kernel, rfl⟩
theorem dX8_isMark_34 : Dj cX8_isMark 34 .goto (4) 3 37 38 := ⟨by decide +kernel, rfl, by decide⟩
theorem dX8_isMark_37 : Dn cX8_isMark 37 (.iconst 0) 1 38 := ⟨by decide +kernel, rfl⟩
theorem dX8_isMark_38 : Dn cX8_isMark 38 (.ireturn) 1 39 := ⟨by decide +kernel, rfl⟩
theorem dX8_areTwo_0 : Dn cX8_areTwo 0 (.aload_n 0) 1 1 := ⟨by decide +kernel, rfl⟩
theorem dX8_areTwo_1 : Dn cX8_areTwo 1 (.iload_n 1) 1 2 := ⟨by decide +kernel, rfl⟩
theorem dX8_areTwo_2 : Dn cX8_areTwo 2 (.invokevirtual 98) 3 5 := ⟨by decide +kernel, rfl⟩
theorem dX8_areTwo_5 : Dj cX8_areTwo 5 (fun o => .ifCond .eq o) (20) 3 8 25 := ⟨by decide +kernel, rfl, by decide⟩
theorem dX8_areTwo_8 : Dn cX8_areTwo 8 (.aload_n 0) 1 9 := ⟨by decide +kernel, rfl⟩
theorem dX8_areTwo_9 : Dn cX8_areTwo 9 (.iload_n 2) 1 10 := ⟨by decide +kernel, rfl⟩
theorem dX8_areTwo_10 : Dn cX8_areTwo 10 (.invokevirtual 98) 3 13 := ⟨by decide +kernel, rfl⟩
theorem dX8_areTwo_13 : Dj cX8_areTwo 13 (fun o => .ifCond .eq o) (12) 3 16 25 := ⟨by decide +kernel, rfl, by decide⟩
theorem dX8_areTwo_16 : Dn cX8_areTwo 16 (.iload_n 1) 1 17 := ⟨by decide +kernel, rfl⟩
theorem dX8_areTwo_17 : Dn cX8_areTwo 17 (.iload_n 2) 1 18 := ⟨by decide +kernel, rfl⟩
theorem dX8_areTwo_18 : Dj cX8_areTwo 18 (fun o => .if_icmp .eq o) (7) 3 21 25 := ⟨by decide +kernel, rfl, by decide⟩
theorem dX8_areTwo_21 : Dn cX8_areTwo 21 (.iconst 1) 1 22 := ⟨by decide +kernel, rfl⟩
theorem dX8_areTwo_22 : Dj cX8_areTwo 22 .goto (4) 3 25 26 := ⟨by decide +kernel, rfl, by decide⟩
theorem dX8_areTwo_25 : Dn cX8_areTwo 25 (.iconst 0) 1 26 := ⟨by decide +kernel, rfl⟩
theorem dX8_areTwo_26 : Dn cX8_areTwo 26 (.ireturn) 1 27 := ⟨by decide +kernel, rfl⟩
theorem dX8_refusalOfTwo_0 : Dn cX8_refusalOfTwo 0 (.aload_n 0) 1 1 := ⟨by decide +kernel, rfl⟩
theorem dX8_refusalOfTwo_1 : Dn cX8_refusalOfTwo 1 (.iload_n 1) 1 2 := ⟨by decide +kernel, rfl⟩
theorem dX8_refusalOfTwo_2 : Dn cX8_refusalOfTwo 2 (.iload_n 2) 1 3 := ⟨by decide +kernel, rfl⟩
theorem dX8_refusalOfTwo_3 : Dn cX8_refusalOfTwo 3 (.invokevirtual 129) 3 6 := ⟨by decide +kernel, rfl⟩
theorem dX8_refusalOfTwo_6 : Dj cX8_refusalOfTwo 6 (fun o => .ifCond .ne o) (5) 3 9 11 := ⟨by decide +kernel, rfl, by decide⟩
theorem dX8_refusalOfTwo_9 : Dn cX8_refusalOfTwo 9 (.iconst (-1)) 1 10 := ⟨by decide +kernel, rfl⟩
theorem dX8_refusalOfTwo_10 : Dn cX8_refusalOfTwo 10 (.ireturn) 1 11 := ⟨by decide +kernel, rfl⟩
theorem dX8_refusalOfTwo_11 : Dn cX8_refusalOfTwo 11 (.iload_n 3) 1 12 := ⟨by decide +kernel, rfl⟩
theorem dX8_refusalOfTwo_12 : Dj cX8_refusalOfTwo 12 (fun o => .ifCond .ne o) (6) 3 15 18 := ⟨by decide +kernel, rfl, by decide⟩
theorem dX8_refusalOfTwo_15 : Dn cX8_refusalOfTwo 15 (.bipush (-2)) 2 17 := ⟨by decide +kernel, rfl⟩
theorem dX8_refusalOfTwo_17 : Dn cX8_refusalOfTwo 17 (.ireturn) 1 18 := ⟨by decide +kernel, rfl⟩
theorem dX8_refusalOfTwo_18 : Dn cX8_refusalOfTwo 18 (.aload_n 0) 1 19 := ⟨by decide +kernel, rfl⟩
theorem dX8_refusalOfTwo_19 : Dn cX8_refusalOfTwo 19 (.getfield 19) 3 22 := ⟨by decide +kernel, rfl⟩
theorem dX8_refusalOfTwo_22 : Dn cX8_refusalOfTwo 22 (.getfield 58) 3 25 := ⟨by decide +kernel, rfl⟩
theorem dX8_refusalOfTwo_25 : Dn cX8_refusalOfTwo 25 (.iload_n 1) 1 26 := ⟨by decide +kernel, rfl⟩
theorem dX8_refusalOfTwo_26 : Dn cX8_refusalOfTwo 26 (.aaload) 1 27 := ⟨by decide +kernel, rfl⟩
theorem dX8_refusalOfTwo_27 : Dn cX8_refusalOfTwo 27 (.invokevirtual 160) 3 30 := ⟨by decide +kernel, rfl⟩
theorem dX8_refusalOfTwo_30 : Dj cX8_refusalOfTwo 30 (fun o => .ifCond .eq o) (22) 3 33 52 := ⟨by decide +kernel, rfl, by decide⟩
theorem dX8_refusalOfTwo_33 : Dn cX8_refusalOfTwo 33 (.aload_n 0) 1 34 := ⟨by decide +kernel, rfl⟩
theorem dX8_refusalOfTwo_34 : Dn cX8_refusalOfTwo 34 (.getfield 19) 3 37 := ⟨by decide +kernel, rfl⟩
theorem dX8_refusalOfTwo_37 : Dn cX8_refusalOfTwo 37 (.getfield 58) 3 40 := ⟨by decide +kernel, rfl⟩
theorem dX8_refusalOfTwo_40 : Dn cX8_refusalOfTwo 40 (.iload_n 2) 1 41 := ⟨by decide +kernel, rfl⟩
theorem dX8_refusalOfTwo_41 : Dn cX8_refusalOfTwo 41 (.aaload) 1 42 := ⟨by decide +kernel, rfl⟩
theorem dX8_refusalOfTwo_42 : Dn cX8_refusalOfTwo 42 (.invokevirtual 160) 3 45 := ⟨by decide +kernel, rfl⟩
theorem dX8_refusalOfTwo_45 : Dj cX8_refusalOfTwo 45 (fun o => .ifCond .eq o) (7) 3 48 52 := ⟨by decide +kernel, rfl, by decide⟩
theorem dX8_refusalOfTwo_48 : Dn cX8_refusalOfTwo 48 (.iconst 0) 1 49 := ⟨by decide +kernel, rfl⟩
theorem dX8_refusalOfTwo_49 : Dj cX8_refusalOfTwo 49 .goto (5) 3 52 54 := ⟨by decide +kernel, rfl, by decide⟩
theorem dX8_refusalOfTwo_52 : Dn cX8_refusalOfTwo 52 (.bipush (-5)) 2 54 := ⟨by decide +kernel, rfl⟩
theorem dX8_refusalOfTwo_54 : Dn cX8_refusalOfTwo 54 (.ireturn) 1 55 := ⟨by decide +kernel, rfl⟩
end
section
theorem dX9_init_0 : Dn cX9_init 0 (.aload_n 0) 1 1 := ⟨by decide +kernel, rfl⟩
theorem dX9_init_1 : Dn cX9_init 1 (.invokespecial 1) 3 4 := ⟨by decide +kernel, rfl⟩
theorem dX9_init_4 : Dn cX9_init 4 (.aload_n 0) 1 5 := ⟨by decide +kernel, rfl⟩
theorem dX9_init_5 : Dn cX9_init 5 (.iconst 4) 1 6 := ⟨by decide +kernel, rfl⟩
theorem dX9_init_6 : Dn cX9_init 6 (.newarray .int) 2 8 := ⟨by decide +kernel, rfl⟩
theorem dX9_init_8 : Dn cX9_init 8 (.putfield 7) 3 11 := ⟨by decide +kernel, rfl⟩
theorem dX9_init_11 : Dn cX9_init 11 (.aload_n 0) 1 12 := ⟨by decide +kernel, rfl⟩
theorem dX9_init_12 : Dn cX9_init 12 (.iconst 4) 1 13 := ⟨by decide +kernel, rfl⟩
theorem dX9_init_13 : Dn cX9_init 13 (.newarray .int) 2 15 := ⟨by decide +kernel, rfl⟩
theorem dX9_init_15 : Dn cX9_init 15 (.putfield 13) 3 18 := ⟨by decide +kernel, rfl⟩
theorem dX9_init_18 : Dn cX9_init 18 (.aload_n 0) 1 19 := ⟨by decide +kernel, rfl⟩
theorem dX9_init_19 : Dn cX9_init 19 (.sipush 1600) 3 22 := ⟨by decide +kernel, rfl⟩
theorem dX9_init_22 : Dn cX9_init 22 (.newarray .int) 2 24 := ⟨by decide +kernel, rfl⟩
theorem dX9_init_24 : Dn cX9_init 24 (.putfield 16) 3 27 := ⟨by decide +kernel, rfl⟩
theorem dX9_init_27 : Dn cX9_init 27 (.aload_n 0) 1 28 := ⟨by decide +kernel, rfl⟩
theorem dX9_init_28 : Dn cX9_init 28 (.sipush 5000) 3 31 := ⟨by decide +kernel, rfl⟩
theorem dX9_init_31 : Dn cX9_init 31 (.putfield 19) 3 34 := ⟨by decide +kernel, rfl⟩
theorem dX9_init_34 : Dn cX9_init 34 (.aload_n 0) 1 35 := ⟨by decide +kernel, rfl⟩
theorem dX9_init_35 : Dn cX9_init 35 (.iconst 2) 1 36 := ⟨by decide +kernel, rfl⟩
theorem dX9_init_36 : Dn cX9_init 36 (.putfield 23) 3 39 := ⟨by decide +kernel, rfl⟩
theorem dX9_init_39 : Dn cX9_init 39 (.aload_n 0) 1 40 := ⟨by decide +kernel, rfl⟩
theorem dX9_init_40 : Dn cX9_init 40 (.sipush 1600) 3 43 := ⟨by decide +kernel, rfl⟩
theorem dX9_init_43 : Dn cX9_init 43 (.newarray .int) 2 45 := ⟨by decide +kernel, rfl⟩
theorem dX9_init_45 : Dn cX9_init 45 (.putfield 26) 3 48 := ⟨by decide +kernel, rfl⟩
theorem dX9_init_48 : Dn cX9_init 48 (.aload_n 0) 1 49 := ⟨by decide +kernel, rfl⟩
theorem dX9_init_49 : Dn cX9_init 49 (.iconst 4) 1 50 := ⟨by decide +kernel, rfl⟩
theorem dX9_init_50 : Dn cX9_init 50 (.newarray .int) 2 52 := ⟨by decide +kernel, rfl⟩
theorem dX9_init_52 : Dn cX9_init 52 (.putfield 29) 3 55 := ⟨by decide +kernel, rfl⟩
theorem dX9_init_55 : Dn cX9_init 55 (.aload_n 0) 1 56 := ⟨by decide +kernel, rfl⟩
theorem dX9_init_56 : Dn cX9_init 56 (.bipush 64) 2 58 := ⟨by decide +kernel, rfl⟩
theorem dX9_init_58 : Dn cX9_init 58 (.newarray .int) 2 60 := ⟨by decide +kernel, rfl⟩
theorem dX9_init_60 : Dn cX9_init 60 (.putfield 32) 3 63 := ⟨by decide +kernel, rfl⟩
theorem dX9_init_63 : Dn cX9_init 63 (.aload_n 0) 1 64 := ⟨by decide +kernel, rfl⟩
theorem dX9_init_64 : Dn cX9_init 64 (.bipush 64) 2 66 := ⟨by decide +kernel, rfl⟩
theorem dX9_init_66 : Dn cX9_init 66 (.newarray .int) 2 68 := ⟨by decide +kernel, rfl⟩
theorem dX9_init_68 : Dn cX9_init 68 (.putfield 35) 3 71 := ⟨by decide +kernel, rfl⟩
theorem dX9_init_71 : Dn cX9_init 71 (.aload_n 0) 1 72 := ⟨by decide +kernel, rfl⟩
theorem dX9_init_72 : Dn cX9_init 72 (.sipush 256) 3 75 := ⟨by decide +kernel, rfl⟩
theorem dX9_init_75 : Dn cX9_init 75 (.newarray .int) 2 77 := ⟨by decide +kernel, rfl⟩
theorem dX9_init_77 : Dn cX9_init 77 (.putfield 38) 3 80 := ⟨by decide +kernel, rfl⟩
theorem dX9_init_80 : Dn cX9_init 80 (.aload_n 0) 1 81 := ⟨by decide +kernel, rfl⟩
theorem dX9_init_81 : Dn cX9_init 81 (.bipush 16) 2 83 := ⟨by decide +kernel, rfl⟩
theorem dX9_init_83 : Dn cX9_init 83 (.newarray .int) 2 85 := ⟨by decide +kernel, rfl⟩
theorem dX9_init_85 : Dn cX9_init 85 (.putfield 41) 3 88 := ⟨by decide +kernel, rfl⟩
theorem dX9_init_88 : Dn cX9_init 88 (.aload_n 0) 1 89 := ⟨by decide +kernel, rfl⟩
theorem dX9_init_89 : Dn cX9_init 89 (.bipush 16) 2 91 := ⟨by decide +kernel, rfl⟩
theorem dX9_init_91 : Dn cX9_init 91 (.newarray .int) 2 93 := ⟨by decide +kernel, rfl⟩
theorem dX9_init_93 : Dn cX9_init 93 (.putfield 44) 3 96 := ⟨by decide +kernel, rfl⟩
theorem dX9_init_96 : Dn cX9_init 96 (.aload_n 0) 1 97 := ⟨by decide +kernel, rfl⟩
theorem dX9_init_97 : Dn cX9_init 97 (.bipush 16) 2 99 := ⟨by decide +kernel, rfl⟩
theorem dX9_init_99 : Dn cX9_init 99 (.newarray .int) 2 101 := ⟨by decide +kernel, rfl⟩
theorem dX9_init_101 : Dn cX9_init 101 (.putfield 47) 3 104 := ⟨by decide +kernel, rfl⟩
theorem dX9_init_104 : Dn cX9_init 104 (.aload_n 0) 1 105 := ⟨by decide +kernel, rfl⟩
theorem dX9_init_105 : Dn cX9_init 105 (.bipush 16) 2 107 := ⟨by decide +kernel, rfl⟩
theorem dX9_init_107 : Dn cX9_init 107 (.newarray .int) 2 109 := ⟨by decide +kernel, rfl⟩
theorem dX9_init_109 : Dn cX9_init 109 (.putfield 50) 3 112 := ⟨by decide +kernel, rfl⟩
theorem dX9_init_112 : Dn cX9_init 112 (.aload_n 0) 1 113 := ⟨by decide +kernel, rfl⟩
theorem dX9_init_113 : Dn cX9_init 113 (.iconst 4) 1 114 := ⟨by decide +kernel, rfl⟩
theorem dX9_init_114 : Dn cX9_init 114 (.newarray .int) 2 116 := ⟨by decide +kernel, rfl⟩
theorem dX9_init_116 : Dn cX9_init 116 (.putfield 53) 3 119 := ⟨by decide +kernel, rfl⟩
theorem dX9_init_119 : Dn cX9_init 119 (.aload_n 0) 1 120 := ⟨by decide +kernel, rfl⟩
theorem dX9_init_120 : Dn cX9_init 120 (.iconst 4) 1 121 := ⟨by decide +kernel, rfl⟩
theorem dX9_init_121 : Dn cX9_init 121 (.newarray .int) 2 123 := ⟨by decide +kernel, rfl⟩
theorem dX9_init_123 : Dn cX9_init 123 (.putfield 56) 3 126 := ⟨by decide +kernel, rfl⟩
theorem dX9_init_126 : Dn cX9_init 126 (.aload_n 0) 1 127 := ⟨by decide +kernel, rfl⟩
theorem dX9_init_127 : Dn cX9_init 127 (.iconst 4) 1 128 := ⟨by decide +kernel, rfl⟩
theorem dX9_init_128 : Dn cX9_init 128 (.newarray .int) 2 130 := ⟨by decide +kernel, rfl⟩
theorem dX9_init_130 : Dn cX9_init 130 (.putfield 59) 3 133 := ⟨by decide +kernel, rfl⟩
theorem dX9_init_133 : Dn cX9_init 133 (.aload_n 0) 1 134 := ⟨by decide +kernel, rfl⟩
theorem dX9_init_134 : Dn cX9_init 134 (.iconst 4) 1 135 := ⟨by decide +kernel, rfl⟩
theorem dX9_init_135 : Dn cX9_init 135 (.newarray .int) 2 137 := ⟨by decide +kernel, rfl⟩
theorem dX9_init_137 : Dn cX9_init 137 (.putfield 62) 3 140 := ⟨by decide +kernel, rfl⟩
theorem dX9_init_140 : Dn cX9_init 140 (.aload_n 0) 1 141 := ⟨by decide +kernel, rfl⟩
theorem dX9_init_141 : Dn cX9_init 141 (.sipush 400) 3 144 := ⟨by decide +kernel, rfl⟩
theorem dX9_init_144 : Dn cX9_init 144 (.newarray .int) 2 146 := ⟨by decide +kernel, rfl⟩
theorem dX9_init_146 : Dn cX9_init 146 (.putfield 65) 3 149 := ⟨by decide +kernel, rfl⟩
theorem dX9_init_149 : Dn cX9_init 149 (.return_) 1 150 := ⟨by decide +kernel, rfl⟩
theorem dX9_in_0 : Dn cX9_in 0 (.iload_n 0) 1 1 := ⟨by decide +kernel, rfl⟩
theorem dX9_in_1 : Dn cX9_in 1 (.iload_n 1) 1 2 := ⟨by decide +kernel, rfl⟩
theorem dX9_in_2 : Dj cX9_in 2 (fun o => .if_icmp .lt o) (12) 3 5 14 := ⟨by decide +kernel, rfl, by decide⟩
theorem dX9_in_5 : Dn cX9_in 5 (.iload_n 0) 1 6 := ⟨by decide +kernel, rfl⟩
theorem dX9_in_6 : Dn cX9_in 6 (.iload_n 2) 1 7 := ⟨by decide +kernel, rfl⟩
theorem dX9_in_7 : Dj cX9_in 7 (fun o => .if_icmp .gt o) (7) 3 10 14 := ⟨by decide +kernel, rfl, by decide⟩
theorem dX9_in_10 : Dn cX9_in 10 (.iconst 1) 1 11 := ⟨by decide +kernel, rfl⟩
theorem dX9_in_11 : Dj cX9_in 11 .goto (4) 3 14 15 := ⟨by decide +kernel, rfl, by decide⟩
theorem dX9_in_14 : Dn cX9_in 14 (.iconst 0) 1 15 := ⟨by decide +kernel, rfl⟩
theorem dX9_in_15 : Dn cX9_in 15 (.ireturn) 1 16 := ⟨by decide +kernel, rfl⟩
theorem dX9_isPicture_0 : Dn cX9_isPicture 0 (.iload_n 1) 1 1 := ⟨by decide +kernel, rfl⟩
theorem dX9_isPicture_1 : Dn cX9_isPicture 1 (.iconst 0) 1 2 := ⟨by decide +kernel, rfl⟩
theorem dX9_isPicture_2 : Dn cX9_isPicture 2 (.aload_n 0) 1 3 := ⟨by decide +kernel, rfl⟩
theorem dX9_isPicture_3 : Dn cX9_isPicture 3 (.getfield 68) 3 6 := ⟨by decide +kernel, rfl⟩
theorem dX9_isPicture_6 : Dn cX9_isPicture 6 (.iconst 1) 1 7 := ⟨by decide +kernel, rfl⟩
theorem dX9_isPicture_7 : Dn cX9_isPicture 7 (.isub) 1 8 := ⟨by decide +kernel, rfl⟩
theorem dX9_isPicture_8 : Dn cX9_isPicture 8 (.invokestatic 71) 3 11 := ⟨by decide +kernel, rfl⟩
theorem dX9_isPicture_11 : Dn cX9_isPicture 11 (.ireturn) 1 12 := ⟨by decide +kernel, rfl⟩
theorem dX9_seed_0 : Dn cX9_seed 0 (.aload_n 0) 1 1 := ⟨by decide +kernel, rfl⟩
theorem dX9_seed_1 : Dn cX9_seed 1 (.getfield 75) 3 4 := ⟨by decide +kernel, rfl⟩
theorem dX9_seed_4 : Dn cX9_seed 4 (.istore_n 2) 1 5 := ⟨by decide +kernel, rfl⟩
theorem dX9_seed_5 : Dn cX9_seed 5 (.aload_n 0) 1 6 := ⟨by decide +kernel, rfl⟩
theorem dX9_seed_6 : Dn cX9_seed 6 (.iload_n 1) 1 7 := ⟨by decide +kernel, rfl⟩
theorem dX9_seed_7 : Dn cX9_seed 7 (.putfield 75) 3 10 := ⟨by decide +kernel, rfl⟩
theorem dX9_seed_10 : Dn cX9_seed 10 (.iload_n 2) 1 11 := ⟨by decide +kernel, rfl⟩
theorem dX9_seed_11 : Dn cX9_seed 11 (.ireturn) 1 12 := ⟨by decide +kernel, rfl⟩
theorem dX9_lightAt_0 : Dn cX9_lightAt 0 (.iload_n 1) 1 1 := ⟨by decide +kernel, rfl⟩
theorem dX9_lightAt_1 : Dn cX9_lightAt 1 (.iconst 3) 1 2 := ⟨by decide +kernel, rfl⟩
theorem dX9_lightAt_2 : Dn cX9_lightAt 2 (.idiv) 1 3 := ⟨by decide +kernel, rfl⟩
theorem dX9_lightAt_3 : Dn cX9_lightAt 3 (.ldc 78) 2 5 := ⟨by decide +kernel, rfl⟩
theorem dX9_lightAt_5 : Dn cX9_lightAt 5 (.imul) 1 6 := ⟨by decide +kernel, rfl⟩
theorem dX9_lightAt_6 : Dn cX9_lightAt 6 (.iload_n 2) 1 7 := ⟨by decide +kernel, rfl⟩
theorem dX9_lightAt_7 : Dn cX9_lightAt 7 (.iconst 3) 1 8 := ⟨by decide +kernel, rfl⟩
theorem dX9_lightAt_8 : Dn cX9_lightAt 8 (.idiv) 1 9 := ⟨by decide +kernel, rfl⟩
theorem dX9_lightAt_9 : Dn cX9_lightAt 9 (.ldc 79) 2 11 := ⟨by decide +kernel, rfl⟩
theorem dX9_lightAt_11 : Dn cX9_lightAt 11 (.imul) 1 12 := ⟨by decide +kernel, rfl⟩
theorem dX9_lightAt_12 : Dn cX9_lightAt 12 (.iadd) 1 13 := ⟨by decide +kernel, rfl⟩
theorem dX9_lightAt_13 : Dn cX9_lightAt 13 (.aload_n 0) 1 14 := ⟨by decide +kernel, rfl⟩
theorem dX9_lightAt_14 : Dn cX9_lightAt 14 (.getfield 75) 3 17 := ⟨by decide +kernel, rfl⟩
theorem dX9_lightAt_17 : Dn cX9_lightAt 17 (.ldc 80) 2 19 := ⟨by decide +kernel, rfl⟩
theorem dX9_lightAt_19 : Dn cX9_lightAt 19 (.imul) 1 20 := ⟨by decide +kernel, rfl⟩
theorem dX9_lightAt_20 : Dn cX9_lightAt 20 (.iadd) 1 21 := ⟨by decide +kernel, rfl⟩
theorem dX9_lightAt_21 : Dn cX9_lightAt 21 (.istore_n 3) 1 22 := ⟨by decide +kernel, rfl⟩
theorem dX9_lightAt_22 : Dn cX9_lightAt 22 (.iload_n 3) 1 23 := ⟨by decide +kernel, rfl⟩
theorem dX9_lightAt_23 : Dn cX9_lightAt 23 (.iload_n 3) 1 24 := ⟨by decide +kernel, rfl⟩
theorem dX9_lightAt_24 : Dn cX9_lightAt 24 (.bipush 15) 2 26 := ⟨by decide +kernel, rfl⟩
theorem dX9_lightAt_26 : Dn cX9_lightAt 26 (.iushr) 1 27 := ⟨by decide +kernel, rfl⟩
theorem dX9_lightAt_27 : Dn cX9_lightAt 27 (.ixor) 1 28 := ⟨by decide +kernel, rfl⟩
theorem dX9_lightAt_28 : Dn cX9_lightAt 28 (.ldc 81) 2 30 := ⟨by decide +kernel, rfl⟩
theorem dX9_lightAt_30 : Dn cX9_lightAt 30 (.imul) 1 31 := ⟨by decide +kernel, rfl⟩
theorem dX9_lightAt_31 : Dn cX9_lightAt 31 (.istore_n 3) 1 32 := ⟨by decide +kernel, rfl⟩
theorem dX9_lightAt_32 : Dn cX9_lightAt 32 (.iload_n 3) 1 33 := ⟨by decide +kernel, rfl⟩
theorem dX9_lightAt_33 : Dn cX9_lightAt 33 (.iload_n 3) 1 34 := ⟨by decide +kernel, rfl⟩
theorem dX9_lightAt_34 : Dn cX9_lightAt 34 (.bipush 15) 2 36 := ⟨by decide +kernel, rfl⟩
theorem dX9_lightAt_36 : Dn cX9_lightAt 36 (.iushr) 1 37 := ⟨by decide +kernel, rfl⟩
theorem dX9_lightAt_37 : Dn cX9_lightAt 37 (.ixor) 1 38 := ⟨by decide +kernel, rfl⟩
theorem dX9_lightAt_38 : Dn cX9_lightAt 38 (.ldc 81) 2 40 := ⟨by decide +kernel, rfl⟩
theorem dX9_lightAt_40 : Dn cX9_lightAt 40 (.imul) 1 41 := ⟨by decide +kernel, rfl⟩
theorem dX9_lightAt_41 : Dn cX9_lightAt 41 (.istore_n 3) 1 42 := ⟨by decide +kernel, rfl⟩
theorem dX9_lightAt_42 : Dn cX9_lightAt 42 (.iload_n 3) 1 43 := ⟨by decide +kernel, rfl⟩
theorem dX9_lightAt_43 : Dn cX9_lightAt 43 (.bipush 16) 2 45 := ⟨by decide +kernel, rfl⟩
theorem dX9_lightAt_45 : Dn cX9_lightAt 45 (.iushr) 1 46 := ⟨by decide +kernel, rfl⟩
theorem dX9_lightAt_46 : Dn cX9_lightAt 46 (.sipush 255) 3 49 := ⟨by decide +kernel, rfl⟩
theorem dX9_lightAt_49 : Dn cX9_lightAt 49 (.iand) 1 50 := ⟨by decide +kernel, rfl⟩
theorem dX9_lightAt_50 : Dn cX9_lightAt 50 (.ireturn) 1 51 := ⟨by decide +kernel, rfl⟩
theorem dX9_light_0 : Dn cX9_light 0 (.iload_n 1) 1 1 := ⟨by decide +kernel, rfl⟩
theorem dX9_light_1 : Dn cX9_light 1 (.iconst 0) 1 2 := ⟨by decide +kernel, rfl⟩
theorem dX9_light_2 : Dn cX9_light 2 (.sipush 2000) 3 5 := ⟨by decide +kernel, rfl⟩
theorem dX9_light_5 : Dn cX9_light 5 (.invokestatic 71) 3 8 := ⟨by decide +kernel, rfl⟩
theorem dX9_light_8 : Dj cX9_light 8 (fun o => .ifCond .eq o) (23) 3 11 31 := ⟨by decide +kernel, rfl, by decide⟩
theorem dX9_light_11 : Dn cX9_light 11 (.iload_n 2) 1 12 := ⟨by decide +kernel, rfl⟩
theorem dX9_light_12 : Dn cX9_light 12 (.iconst 0) 1 13 := ⟨by decide +kernel, rfl⟩
theorem dX9_light_13 : Dn cX9_light 13 (.sipush 2000) 3 16 := ⟨by decide +kernel, rfl⟩
theorem dX9_light_16 : Dn cX9_light 16 (.invokestatic 71) 3 19 := ⟨by decide +kernel, rfl⟩
theorem dX9_light_19 : Dj cX9_light 19 (fun o => .ifCond .eq o) (12) 3 22 31 := ⟨by decide +kernel, rfl, by decide⟩
theorem dX9_light_22 : Dn cX9_light 22 (.aload_n 0) 1 23 := ⟨by decide +kernel, rfl⟩
theorem dX9_light_23 : Dn cX9_light 23 (.iload_n 1) 1 24 := ⟨by decide +kernel, rfl⟩
theorem dX9_light_24 : Dn cX9_light 24 (.iload_n 2) 1 25 := ⟨by decide +kernel, rfl⟩
theorem dX9_light_25 : Dn cX9_light 25 (.invokevirtual 82) 3 28 := ⟨by decide +kernel, rfl⟩
theorem dX9_light_28 : Dj cX9_light 28 .goto (5) 3 31 33 := ⟨by decide +kernel, rfl, by decide⟩
theorem dX9_light_31 : Dn cX9_light 31 (.bipush (-2)) 2 33 := ⟨by decide +kernel, rfl⟩
theorem dX9_light_33 : Dn cX9_light 33 (.ireturn) 1 34 := ⟨by decide +kernel, rfl⟩
theorem dX9_shoot_0 : Dn cX9_shoot 0 (.iload_n 1) 1 1 := ⟨by decide +kernel, rfl⟩
theorem dX9_shoot_1 : Dn cX9_shoot 1 (.bipush 8) 2 3 := ⟨by decide +kernel, rfl⟩
theorem dX9_shoot_3 : Dn cX9_shoot 3 (.bipush 20) 2 5 := ⟨by decide +kernel, rfl⟩
theorem dX9_shoot_5 : Dn cX9_shoot 5 (.invokestatic 71) 3 8 := ⟨by decide +kernel, rfl⟩
theorem dX9_shoot_8 : Dj cX9_shoot 8 (fun o => .ifCond .eq o) (48) 3 11 56 := ⟨by decide +kernel, rfl, by decide⟩
theorem dX9_shoot_11 : Dn cX9_shoot 11 (.iload_n 2) 1 12 := ⟨by decide +kernel, rfl⟩
theorem dX9_shoot_12 : Dn cX9_shoot 12 (.bipush 8) 2 14 := ⟨by decide +kernel, rfl⟩
theorem dX9_shoot_14 : Dn cX9_shoot 14 (.bipush 20) 2 16 := ⟨by decide +kernel, rfl⟩
theorem dX9_shoot_16 : Dn cX9_shoot 16 (.invokestatic 71) 3 19 := ⟨by decide +kernel, rfl⟩
theorem dX9_shoot_19 : Dj cX9_shoot 19 (fun o => .ifCond .eq o) (37) 3 22 56 := ⟨by decide +kernel, rfl, by decide⟩
theorem dX9_shoot_22 : Dn cX9_shoot 22 (.iload_n 3) 1 23 := ⟨by decide +kernel, rfl⟩
theorem dX9_shoot_23 : Dn cX9_shoot 23 (.iconst 0) 1 24 := ⟨by decide +kernel, rfl⟩
theorem dX9_shoot_24 : Dn cX9_shoot 24 (.sipush 1900) 3 27 := ⟨by decide +kernel, rfl⟩
theorem dX9_shoot_27 : Dn cX9_shoot 27 (.invokestatic 71) 3 30 := ⟨by decide +kernel, rfl⟩
theorem dX9_shoot_30 : Dj cX9_shoot 30 (fun o => .ifCond .eq o) (26) 3 33 56 := ⟨by decide +kernel, rfl, by decide⟩
theorem dX9_shoot_33 : Dn cX9_shoot 33 (.iload 4) 2 35 := ⟨by decide +kernel, rfl⟩
theorem dX9_shoot_35 : Dn cX9_shoot 35 (.iconst 0) 1 36 := ⟨by decide +kernel, rfl⟩
theorem dX9_shoot_36 : Dn cX9_shoot 36 (.sipush 1900) 3 39 := ⟨by decide +kernel, rfl⟩
theorem dX9_shoot_39 : Dn cX9_shoot 39 (.invokestatic 71) 3 42 := ⟨by decide +kernel, rfl⟩
theorem dX9_shoot_42 : Dj cX9_shoot 42 (fun o => .ifCond .eq o) (14) 3 45 56 := ⟨by decide +kernel, rfl, by decide⟩
theorem dX9_shoot_45 : Dn cX9_shoot 45 (.iload 5) 2 47 := ⟨by decide +kernel, rfl⟩
theorem dX9_shoot_47 : Dn cX9_shoot 47 (.iconst 1) 1 48 := ⟨by decide +kernel, rfl⟩
theorem dX9_shoot_48 : Dn cX9_shoot 48 (.bipush 64) 2 50 := ⟨by decide +kernel, rfl⟩
theorem dX9_shoot_50 : Dn cX9_shoot 50 (.invokestatic 71) 3 53 := ⟨by decide +kernel, rfl⟩
theorem dX9_shoot_53 : Dj cX9_shoot 53 (fun o => .ifCond .ne o) (6) 3 56 59 := ⟨by decide +kernel, rfl, by decide⟩
theorem dX9_shoot_56 : Dn cX9_shoot 56 (.bipush (-2)) 2 58 := ⟨by decide +kernel, rfl⟩
theorem dX9_shoot_58 : Dn cX9_shoot 58 (.ireturn) 1 59 := ⟨by decide +kernel, rfl⟩
theorem dX9_shoot_59 : Dn cX9_shoot 59 (.aload_n 0) 1 60 := ⟨by decide +kernel, rfl⟩
theorem dX9_shoot_60 : Dn cX9_shoot 60 (.getfield 68) 3 63 := ⟨by decide +kernel, rfl⟩
theorem dX9_shoot_63 : Dn cX9_shoot 63 (.iconst 4) 1 64 := ⟨by decide +kernel, rfl⟩
theorem dX9_shoot_64 : Dj cX9_shoot 64 (fun o => .if_icmp .ne o) (6) 3 67 70 := ⟨by decide +kernel, rfl, by decide⟩
theorem dX9_shoot_67 : Dn cX9_shoot 67 (.bipush (-4)) 2 69 := ⟨by decide +kernel, rfl⟩
theorem dX9_shoot_69 : Dn cX9_shoot 69 (.ireturn) 1 70 := ⟨by decide +kernel, rfl⟩
theorem dX9_shoot_70 : Dn cX9_shoot 70 (.aload_n 0) 1 71 := ⟨by decide +kernel, rfl⟩
theorem dX9_shoot_71 : Dn cX9_shoot 71 (.getfield 7) 3 74 := ⟨by decide +kernel, rfl⟩
theorem dX9_shoot_74 : Dn cX9_shoot 74 (.aload_n 0) 1 75 := ⟨by decide +kernel, rfl⟩
theorem dX9_shoot_75 : Dn cX9_shoot 75 (.getfield 68) 3 78 := ⟨by decide +kernel, rfl⟩
theorem dX9_shoot_78 : Dn cX9_shoot 78 (.iload_n 1) 1 79 := ⟨by decide +kernel, rfl⟩
theorem dX9_shoot_79 : Dn cX9_shoot 79 (.iastore) 1 80 := ⟨by decide +kernel, rfl⟩
theorem dX9_shoot_80 : Dn cX9_shoot 80 (.aload_n 0) 1 81 := ⟨by decide +kernel, rfl⟩
theorem dX9_shoot_81 : Dn cX9_shoot 81 (.getfield 13) 3 84 := ⟨by decide +kernel, rfl⟩
theorem dX9_shoot_84 : Dn cX9_shoot 84 (.aload_n 0) 1 85 := ⟨by decide +kernel, rfl⟩
theorem dX9_shoot_85 : Dn cX9_shoot 85 (.getfield 68) 3 88 := ⟨by decide +kernel, rfl⟩
theorem dX9_shoot_88 : Dn cX9_shoot 88 (.iload_n 2) 1 89 := ⟨by decide +kernel, rfl⟩
theorem dX9_shoot_89 : Dn cX9_shoot 89 (.iastore) 1 90 := ⟨by decide +kernel, rfl⟩
theorem dX9_shoot_90 : Dn cX9_shoot 90 (.iconst 0) 1 91 := ⟨by decide +kernel, rfl⟩
theorem dX9_shoot_91 : Dn cX9_shoot 91 (.istore 6) 2 93 := ⟨by decide +kernel, rfl⟩
theorem dX9_shoot_93 : Dn cX9_shoot 93 (.iload 6) 2 95 := ⟨by decide +kernel, rfl⟩
theorem dX9_shoot_95 : Dn cX9_shoot 95 (.iload_n 2) 1 96 := ⟨by decide +kernel, rfl⟩
theorem dX9_shoot_96 : Dj cX9_shoot 96 (fun o => .if_icmp .ge o) (83) 3 99 179 := ⟨by decide +kernel, rfl, by decide⟩
theorem dX9_shoot_99 : Dn cX9_shoot 99 (.iconst 0) 1 100 := ⟨by decide +kernel, rfl⟩
theorem dX9_shoot_100 : Dn cX9_shoot 100 (.istore 7) 2 102 := ⟨by decide +kernel, rfl⟩
theorem dX9_shoot_102 : Dn cX9_shoot 102 (.iload 7) 2 104 := ⟨by decide +kernel, rfl⟩
theorem dX9_shoot_104 : Dn cX9_shoot 104 (.iload_n 1) 1 105 := ⟨by decide +kernel, rfl⟩
theorem dX9_shoot_105 : Dj cX9_shoot 105 (fun o => .if_icmp .ge o) (68) 3 108 173 := ⟨by decide +kernel, rfl, by decide⟩
theorem dX9_shoot_108 : Dn cX9_shoot 108 (.iload 5) 2 110 := ⟨by decide +kernel, rfl⟩
theorem dX9_shoot_110 : Dn cX9_shoot 110 (.aload_n 0) 1 111 := ⟨by decide +kernel, rfl⟩
theorem dX9_shoot_111 : Dn cX9_shoot 111 (.iload_n 3) 1 112 := ⟨by decide +kernel, rfl⟩
theorem dX9_shoot_112 : Dn cX9_shoot 112 (.iload 7) 2 114 := ⟨by decide +kernel, rfl⟩
theorem dX9_shoot_114 : Dn cX9_shoot 114 (.iadd) 1 115 := ⟨by decide +kernel, rfl⟩
theorem dX9_shoot_115 : Dn cX9_shoot 115 (.iload 4) 2 117 := ⟨by decide +kernel, rfl⟩
theorem dX9_shoot_117 : Dn cX9_shoot 117 (.iload 6) 2 119 := ⟨by decide +kernel, rfl⟩
theorem dX9_shoot_119 : Dn cX9_shoot 119 (.iadd) 1 120 := ⟨by decide +kernel, rfl⟩
theorem dX9_shoot_120 : Dn cX9_shoot 120 (.invokevirtual 82) 3 123 := ⟨by decide +kernel, rfl⟩
theorem dX9_shoot_123 : Dn cX9_shoot 123 (.imul) 1 124 := ⟨by decide +kernel, rfl⟩
theorem dX9_shoot_124 : Dn cX9_shoot 124 (.bipush 16) 2 126 := ⟨by decide +kernel, rfl⟩
theorem dX9_shoot_126 : Dn cX9_shoot 126 (.idiv) 1 127 := ⟨by decide +kernel, rfl⟩
theorem dX9_shoot_127 : Dn cX9_shoot 127 (.istore 8) 2 129 := ⟨by decide +kernel, rfl⟩
theorem dX9_shoot_129 : Dn cX9_shoot 129 (.aload_n 0) 1 130 := ⟨by decide +kernel, rfl⟩
theorem dX9_shoot_130 : Dn cX9_shoot 130 (.getfield 16) 3 133 := ⟨by decide +kernel, rfl⟩
theorem dX9_shoot_133 : Dn cX9_shoot 133 (.sipush 400) 3 136 := ⟨by decide +kernel, rfl⟩
theorem dX9_shoot_136 : Dn cX9_shoot 136 (.aload_n 0) 1 137 := ⟨by decide +kernel, rfl⟩
theorem dX9_shoot_137 : Dn cX9_shoot 137 (.getfield 68) 3 140 := ⟨by decide +kernel, rfl⟩
theorem dX9_shoot_140 : Dn cX9_shoot 140 (.imul) 1 141 := ⟨by decide +kernel, rfl⟩
theorem dX9_shoot_141 : Dn cX9_shoot 141 (.bipush 20) 2 143 := ⟨by decide +kernel, rfl⟩
theorem dX9_shoot_143 : Dn cX9_shoot 143 (.iload 6) 2 145 := ⟨by decide +kernel, rfl⟩
theorem dX9_shoot_145 : Dn cX9_shoot 145 (.imul) 1 146 := ⟨by decide +kernel, rfl⟩
theorem dX9_shoot_146 : Dn cX9_shoot 146 (.iadd) 1 147 := ⟨by decide +kernel, rfl⟩
theorem dX9_shoot_147 : Dn cX9_shoot 147 (.iload 7) 2 149 := ⟨by decide +kernel, rfl⟩
theorem dX9_shoot_149 : Dn cX9_shoot 149 (.iadd) 1 150 := ⟨by decide +kernel, rfl⟩
theorem dX9_shoot_150 : Dn cX9_shoot 150 (.iload 8) 2 152 := ⟨by decide +kernel, rfl⟩
theorem dX9_shoot_152 : Dn cX9_shoot 152 (.sipush 255) 3 155 := ⟨by decide +kernel, rfl⟩
theorem dX9_shoot_155 : Dj cX9_shoot 155 (fun o => .if_icmp .le o) (9) 3 158 164 := ⟨by decide +kernel, rfl, by decide⟩
theorem dX9_shoot_158 : Dn cX9_shoot 158 (.sipush 255) 3 161 := ⟨by decide +kernel, rfl⟩
theorem dX9_shoot_161 : Dj cX9_shoot 161 .goto (5) 3 164 166 := ⟨by decide +kernel, rfl, by decide⟩
theorem dX9_shoot_164 : Dn cX9_shoot 164 (.iload 8) 2 166 := ⟨by decide +kernel, rfl⟩
theorem dX9_shoot_166 : Dn cX9_shoot 166 (.iastore) 1 167 := ⟨by decide +kernel, rfl⟩
theorem dX9_shoot_167 : Dn cX9_shoot 167 (.iinc 7 1) 3 170 := ⟨by decide +kernel, rfl⟩
theorem dX9_shoot_170 : Dj cX9_shoot 170 .goto (-68) 3 173 102 := ⟨by decide +kernel, rfl, by decide⟩
theorem dX9_shoot_173 : Dn cX9_shoot 173 (.iinc 6 1) 3 176 := ⟨by decide +kernel, rfl⟩
theorem dX9_shoot_176 : Dj cX9_shoot 176 .goto (-83) 3 179 93 := ⟨by decide +kernel, rfl, by decide⟩
theorem dX9_shoot_179 : Dn cX9_shoot 179 (.aload_n 0) 1 180 := ⟨by decide +kernel, rfl⟩
theorem dX9_shoot_180 : Dn cX9_shoot 180 (.dup) 1 181 := ⟨by decide +kernel, rfl⟩
theorem dX9_shoot_181 : Dn cX9_shoot 181 (.getfield 68) 3 184 := ⟨by decide +kernel, rfl⟩
theorem dX9_shoot_184 : Dn cX9_shoot 184 (.iconst 1) 1 185 := ⟨by decide +kernel, rfl⟩
theorem dX9_shoot_185 : Dn cX9_shoot 185 (.iadd) 1 186 := ⟨by decide +kernel, rfl⟩
theorem dX9_shoot_186 : Dn cX9_shoot 186 (.putfield 68) 3 189 := ⟨by decide +kernel, rfl⟩
theorem dX9_shoot_189 : Dn cX9_shoot 189 (.aload_n 0) 1 190 := ⟨by decide +kernel, rfl⟩
theorem dX9_shoot_190 : Dn cX9_shoot 190 (.iconst 0) 1 191 := ⟨by decide +kernel, rfl⟩
theorem dX9_shoot_191 : Dn cX9_shoot 191 (.putfield 86) 3 194 := ⟨by decide +kernel, rfl⟩
theorem dX9_shoot_194 : Dn cX9_shoot 194 (.aload_n 0) 1 195 := ⟨by decide +kernel, rfl⟩
theorem dX9_shoot_195 : Dn cX9_shoot 195 (.getfield 68) 3 198 := ⟨by decide +kernel, rfl⟩
theorem dX9_shoot_198 : Dn cX9_shoot 198 (.iconst 1) 1 199 := ⟨by decide +kernel, rfl⟩
theorem dX9_shoot_199 : Dn cX9_shoot 199 (.isub) 1 200 := ⟨by decide +kernel, rfl⟩
theorem dX9_shoot_200 : Dn cX9_shoot 200 (.ireturn) 1 201 := ⟨by decide +kernel, rfl⟩
theorem dX9_clear_0 : Dn cX9_clear 0 (.aload_n 0) 1 1 := ⟨by decide +kernel, rfl⟩
theorem dX9_clear_1 : Dn cX9_clear 1 (.getfield 68) 3 4 := ⟨by decide +kernel, rfl⟩
theorem dX9_clear_4 : Dn cX9_clear 4 (.istore_n 1) 1 5 := ⟨by decide +kernel, rfl⟩
theorem dX9_clear_5 : Dn cX9_clear 5 (.aload_n 0) 1 6 := ⟨by decide +kernel, rfl⟩
theorem dX9_clear_6 : Dn cX9_clear 6 (.iconst 0) 1 7 := ⟨by decide +kernel, rfl⟩
theorem dX9_clear_7 : Dn cX9_clear 7 (.putfield 68) 3 10 := ⟨by decide +kernel, rfl⟩
theorem dX9_clear_10 : Dn cX9_clear 10 (.aload_n 0) 1 11 := ⟨by decide +kernel, rfl⟩
theorem dX9_clear_11 : Dn cX9_clear 11 (.iconst 0) 1 12 := ⟨by decide +kernel, rfl⟩
theorem dX9_clear_12 : Dn cX9_clear 12 (.putfield 86) 3 15 := ⟨by decide +kernel, rfl⟩
theorem dX9_clear_15 : Dn cX9_clear 15 (.iload_n 1) 1 16 := ⟨by decide +kernel, rfl⟩
theorem dX9_clear_16 : Dn cX9_clear 16 (.ireturn) 1 17 := ⟨by decide +kernel, rfl⟩
theorem dX9_isDot_0 : Dn cX9_isDot 0 (.aload_n 0) 1 1 := ⟨by decide +kernel, rfl⟩
theorem dX9_isDot_1 : Dn cX9_isDot 1 (.iload_n 1) 1 2 := ⟨by decide +kernel, rfl⟩
theorem dX9_isDot_2 : Dn cX9_isDot 2 (.invokevirtual 90) 3 5 := ⟨by decide +kernel, rfl⟩
theorem dX9_isDot_5 : Dj cX9_isDot 5 (fun o => .ifCond .eq o) (39) 3 8 44 := ⟨by decide +kernel, rfl, by decide⟩
theorem dX9_isDot_8 : Dn cX9_isDot 8 (.iload_n 2) 1 9 := ⟨by decide +kernel, rfl⟩
theorem dX9_isDot_9 : Dn cX9_isDot 9 (.iconst 0) 1 10 := ⟨by decide +kernel, rfl⟩
theorem dX9_isDot_10 : Dn cX9_isDot 10 (.aload_n 0) 1 11 := ⟨by decide +kernel, rfl⟩
theorem dX9_isDot_11 : Dn cX9_isDot 11 (.getfield 7) 3 14 := ⟨by decide +kernel, rfl⟩
theorem dX9_isDot_14 : Dn cX9_isDot 14 (.iload_n 1) 1 15 := ⟨by decide +kernel, rfl⟩
theorem dX9_isDot_15 : Dn cX9_isDot 15 (.iaload) 1 16 := ⟨by decide +kernel, rfl⟩
theorem dX9_isDot_16 : Dn cX9_isDot 16 (.iconst 1) 1 17 := ⟨by decide +kernel, rfl⟩
theorem dX9_isDot_17 : Dn cX9_isDot 17 (.isub) 1 18 := ⟨by decide +kernel, rfl⟩
theorem dX9_isDot_18 : Dn cX9_isDot 18 (.invokestatic 71) 3 21 := ⟨by decide +kernel, rfl⟩
theorem dX9_isDot_21 : Dj cX9_isDot 21 (fun o => .ifCond .eq o) (23) 3 24 44 := ⟨by decide +kernel, rfl, by decide⟩
theorem dX9_isDot_24 : Dn cX9_isDot 24 (.iload_n 3) 1 25 := ⟨by decide +kernel, rfl⟩
theorem dX9_isDot_25 : Dn cX9_isDot 25 (.iconst 0) 1 26 := ⟨by decide +kernel, rfl⟩
theorem dX9_isDot_26 : Dn cX9_isDot 26 (.aload_n 0) 1 27 := ⟨by decide +kernel, rfl⟩
theorem dX9_isDot_27 : Dn cX9_isDot 27 (.getfield 13) 3 30 := ⟨by decide +kernel, rfl⟩
theorem dX9_isDot_30 : Dn cX9_isDot 30 (.iload_n 1) 1 31 := ⟨by decide +kernel, rfl⟩
theorem dX9_isDot_31 : Dn cX9_isDot 31 (.iaload) 1 32 := ⟨by decide +kernel, rfl⟩
theorem dX9_isDot_32 : Dn cX9_isDot 32 (.iconst 1) 1 33 := ⟨by decide +kernel, rfl⟩
theorem dX9_isDot_33 : Dn cX9_isDot 33 (.isub) 1 34 := ⟨by decide +kernel, rfl⟩
theorem dX9_isDot_34 : Dn cX9_isDot 34 (.invokestatic 71) 3 37 := ⟨by decide +kernel, rfl⟩
theorem dX9_isDot_37 : Dj cX9_isDot 37 (fun o => .ifCond .eq o) (7) 3 40 44 := ⟨by decide +kernel, rfl, by decide⟩
theorem dX9_isDot_40 : Dn cX9_isDot 40 (.iconst 1) 1 41 := ⟨by decide +kernel, rfl⟩
theorem dX9_isDot_41 : Dj cX9_isDot 41 .goto (4) 3 44 45 := ⟨by decide +kernel, rfl, by decide⟩
theorem dX9_isDot_44 : Dn cX9_isDot 44 (.iconst 0) 1 45 := ⟨by decide +kernel, rfl⟩
theorem dX9_isDot_45 : Dn cX9_isDot 45 (.ireturn) 1 46 := ⟨by decide +kernel, rfl⟩
theorem dX9_dotAt_0 : Dn cX9_dotAt 0 (.aload_n 0) 1 1 := ⟨by decide +kernel, rfl⟩
theorem dX9_dotAt_1 : Dn cX9_dotAt 1 (.getfield 16) 3 4 := ⟨by decide +kernel, rfl⟩
theorem dX9_dotAt_4 : Dn cX9_dotAt 4 (.sipush 400) 3 7 := ⟨by decide +kernel, rfl⟩
theorem dX9_dotAt_7 : Dn cX9_dotAt 7 (.iload_n 1) 1 8 := ⟨by decide +kernel, rfl⟩
theorem dX9_dotAt_8 : Dn cX9_dotAt 8 (.imul) 1 9 := ⟨by decide +kernel, rfl⟩
theorem dX9_dotAt_9 : Dn cX9_dotAt 9 (.bipush 20) 2 11 := ⟨by decide +kernel, rfl⟩
theorem dX9_dotAt_11 : Dn cX9_dotAt 11 (.iload_n 3) 1 12 := ⟨by decide +kernel, rfl⟩
theorem dX9_dotAt_12 : Dn cX9_dotAt 12 (.imul) 1 13 := ⟨by decide +kernel, rfl⟩
theorem dX9_dotAt_13 : Dn cX9_dotAt 13 (.iadd) 1 14 := ⟨by decide +kernel, rfl⟩
theorem dX9_dotAt_14 : Dn cX9_dotAt 14 (.iload_n 2) 1 15 := ⟨by decide +kernel, rfl⟩
theorem dX9_dotAt_15 : Dn cX9_dotAt 15 (.iadd) 1 16 := ⟨by decide +kernel, rfl⟩
theorem dX9_dotAt_16 : Dn cX9_dotAt 16 (.iaload) 1 17 := ⟨by decide +kernel, rfl⟩
theorem dX9_dotAt_17 : Dn cX9_dotAt 17 (.ireturn) 1 18 := ⟨by decide +kernel, rfl⟩
theorem dX9_dot_0 : Dn cX9_dot 0 (.aload_n 0) 1 1 := ⟨by decide +kernel, rfl⟩
theorem dX9_dot_1 : Dn cX9_dot 1 (.iload_n 1) 1 2 := ⟨by decide +kernel, rfl⟩
theorem dX9_dot_2 : Dn cX9_dot 2 (.iload_n 2) 1 3 := ⟨by decide +kernel, rfl⟩
theorem dX9_dot_3 : Dn cX9_dot 3 (.iload_n 3) 1 4 := ⟨by decide +kernel, rfl⟩
theorem dX9_dot_4 : Dn cX9_dot 4 (.invokevirtual 94) 3 7 := ⟨by decide +kernel, rfl⟩
theorem dX9_dot_7 : Dj cX9_dot 7 (fun o => .ifCond .ne o) (6) 3 10 13 := ⟨by decide +kernel, rfl, by decide⟩
theorem dX9_dot_10 : Dn cX9_dot 10 (.ldc 97) 2 12 := ⟨by decide +kernel, rfl⟩
theorem dX9_dot_12 : Dn cX9_dot 12 (.ireturn) 1 13 := ⟨by decide +kernel, rfl⟩
theorem dX9_dot_13 : Dn cX9_dot 13 (.iload 4) 2 15 := ⟨by decide +kernel, rfl⟩
theorem dX9_dot_15 : Dn cX9_dot 15 (.iconst (-1)) 1 16 := ⟨by decide +kernel, rfl⟩
theorem dX9_dot_16 : Dn cX9_dot 16 (.sipush 255) 3 19 := ⟨by decide +kernel, rfl⟩
theorem dX9_dot_19 : Dn cX9_dot 19 (.invokestatic 71) 3 22 := ⟨by decide +kernel, rfl⟩
theorem dX9_dot_22 : Dj cX9_dot 22 (fun o => .ifCond .ne o) (6) 3 25 28 := ⟨by decide +kernel, rfl, by decide⟩
theorem dX9_dot_25 : Dn cX9_dot 25 (.ldc 98) 2 27 := ⟨by decide +kernel, rfl⟩
theorem dX9_dot_27 : Dn cX9_dot 27 (.ireturn) 1 28 := ⟨by decide +kernel, rfl⟩
theorem dX9_dot_28 : Dn cX9_dot 28 (.aload_n 0) 1 29 := ⟨by decide +kernel, rfl⟩
theorem dX9_dot_29 : Dn cX9_dot 29 (.iload_n 1) 1 30 := ⟨by decide +kernel, rfl⟩
theorem dX9_dot_30 : Dn cX9_dot 30 (.iload_n 2) 1 31 := ⟨by decide +kernel, rfl⟩
theorem dX9_dot_31 : Dn cX9_dot 31 (.iload_n 3) 1 32 := ⟨by decide +kernel, rfl⟩
theorem dX9_dot_32 : Dn cX9_dot 32 (.invokevirtual 99) 3 35 := ⟨by decide +kernel, rfl⟩
theorem dX9_dot_35 : Dn cX9_dot 35 (.istore 5) 2 37 := ⟨by decide +kernel, rfl⟩
theorem dX9_dot_37 : Dn cX9_dot 37 (.aload_n 0) 1 38 := ⟨by decide +kernel, rfl⟩
theorem dX9_dot_38 : Dn cX9_dot 38 (.getfield 16) 3 41 := ⟨by decide +kernel, rfl⟩
theorem dX9_dot_41 : Dn cX9_dot 41 (.sipush 400) 3 44 := ⟨by decide +kernel, rfl⟩
theorem dX9_dot_44 : Dn cX9_dot 44 (.iload_n 1) 1 45 := ⟨by decide +kernel, rfl⟩
theorem dX9_dot_45 : Dn cX9_dot 45 (.imul) 1 46 := ⟨by decide +kernel, rfl⟩
theorem dX9_dot_46 : Dn cX9_dot 46 (.bipush 20) 2 48 := ⟨by decide +kernel, rfl⟩
theorem dX9_dot_48 : Dn cX9_dot 48 (.iload_n 3) 1 49 := ⟨by decide +kernel, rfl⟩
theorem dX9_dot_49 : Dn cX9_dot 49 (.imul) 1 50 := ⟨by decide +kernel, rfl⟩
theorem dX9_dot_50 : Dn cX9_dot 50 (.iadd) 1 51 := ⟨by decide +kernel, rfl⟩
theorem dX9_dot_51 : Dn cX9_dot 51 (.iload_n 2) 1 52 := ⟨by decide +kernel, rfl⟩
theorem dX9_dot_52 : Dn cX9_dot 52 (.iadd) 1 53 := ⟨by decide +kernel, rfl⟩
theorem dX9_dot_53 : Dn cX9_dot 53 (.iload 4) 2 55 := ⟨by decide +kernel, rfl⟩
theorem dX9_dot_55 : Dn cX9_dot 55 (.iastore) 1 56 := ⟨by decide +kernel, rfl⟩
theorem dX9_dot_56 : Dn cX9_dot 56 (.aload_n 0) 1 57 := ⟨by decide +kernel, rfl⟩
theorem dX9_dot_57 : Dn cX9_dot 57 (.iconst 0) 1 58 := ⟨by decide +kernel, rfl⟩
theorem dX9_dot_58 : Dn cX9_dot 58 (.putfield 86) 3 61 := ⟨by decide +kernel, rfl⟩
theorem dX9_dot_61 : Dn cX9_dot 61 (.iload 5) 2 63 := ⟨by decide +kernel, rfl⟩
theorem dX9_dot_63 : Dn cX9_dot 63 (.ireturn) 1 64 := ⟨by decide +kernel, rfl⟩
theorem dX9_at_0 : Dn cX9_at 0 (.aload_n 0) 1 1 := ⟨by decide +kernel, rfl⟩
theorem dX9_at_1 : Dn cX9_at 1 (.iload_n 1) 1 2 := ⟨by decide +kernel, rfl⟩
theorem dX9_at_2 : Dn cX9_at 2 (.iload_n 2) 1 3 := ⟨by decide +kernel, rfl⟩
theorem dX9_at_3 : Dn cX9_at 3 (.iload_n 3) 1 4 := ⟨by decide +kernel, rfl⟩
theorem dX9_at_4 : Dn cX9_at 4 (.invokevirtual 94) 3 7 := ⟨by decide +kernel, rfl⟩
theorem dX9_at_7 : Dj cX9_at 7 (fun o => .ifCond .eq o) (13) 3 10 20 := ⟨by decide +kernel, rfl, by decide⟩
theorem dX9_at_10 : Dn cX9_at 10 (.aload_n 0) 1 11 := ⟨by decide +kernel, rfl⟩
theorem dX9_at_11 : Dn cX9_at 11 (.iload_n 1) 1 12 := ⟨by decide +kernel, rfl⟩
theorem dX9_at_12 : Dn cX9_at 12 (.iload_n 2) 1 13 := ⟨by decide +kernel, rfl⟩
theorem dX9_at_13 : Dn cX9_at 13 (.iload_n 3) 1 14 := ⟨by decide +kernel, rfl⟩
theorem dX9_at_14 : Dn cX9_at 14 (.invokevirtual 99) 3 17 := ⟨by decide +kernel, rfl⟩
theorem dX9_at_17 : Dj cX9_at 17 .goto (5) 3 20 22 := ⟨by decide +kernel, rfl, by decide⟩
theorem dX9_at_20 : Dn cX9_at 20 (.ldc 97) 2 22 := ⟨by decide +kernel, rfl⟩
theorem dX9_at_22 : Dn cX9_at 22 (.ireturn) 1 23 := ⟨by decide +kernel, rfl⟩
theorem dX9_rules_0 : Dn cX9_rules 0 (.iload_n 1) 1 1 := ⟨by decide +kernel, rfl⟩
theorem dX9_rules_1 : Dn cX9_rules 1 (.iconst 1) 1 2 := ⟨by decide +kernel, rfl⟩
theorem dX9_rules_2 : Dn cX9_rules 2 (.ldc 103) 2 4 := ⟨by decide +kernel, rfl⟩
theorem dX9_rules_4 : Dn cX9_rules 4 (.invokestatic 71) 3 7 := ⟨by decide +kernel, rfl⟩
theorem dX9_rules_7 : Dj cX9_rules 7 (fun o => .ifCond .eq o) (13) 3 10 20 := ⟨by decide +kernel, rfl, by decide⟩
theorem dX9_rules_10 : Dn cX9_rules 10 (.iload_n 2) 1 11 := ⟨by decide +kernel, rfl⟩
theorem dX9_rules_11 : Dn cX9_rules 11 (.iconst 0) 1 12 := ⟨by decide +kernel, rfl⟩
theorem dX9_rules_12 : Dn cX9_rules 12 (.bipush 12) 2 14 := ⟨by decide +kernel, rfl⟩
theorem dX9_rules_14 : Dn cX9_rules 14 (.invokestatic 71) 3 17 := ⟨by decide +kernel, rfl⟩
theorem dX9_rules_17 : Dj cX9_rules 17 (fun o => .ifCond .ne o) (6) 3 20 23 := ⟨by decide +kernel, rfl, by decide⟩
theorem dX9_rules_20 : Dn cX9_rules 20 (.bipush (-2)) 2 22 := ⟨by decide +kernel, rfl⟩
theorem dX9_rules_22 : Dn cX9_rules 22 (.ireturn) 1 23 := ⟨by decide +kernel, rfl⟩
theorem dX9_rules_23 : Dn cX9_rules 23 (.aload_n 0) 1 24 := ⟨by decide +kernel, rfl⟩
theorem dX9_rules_24 : Dn cX9_rules 24 (.iload_n 1) 1 25 := ⟨by decide +kernel, rfl⟩
theorem dX9_rules_25 : Dn cX9_rules 25 (.putfield 19) 3 28 := ⟨by decide +kernel, rfl⟩
theorem dX9_rules_28 : Dn cX9_rules 28 (.aload_n 0) 1 29 := ⟨by decide +kernel, rfl⟩
theorem dX9_rules_29 : Dn cX9_rules 29 (.iload_n 2) 1 30 := ⟨by decide +kernel, rfl⟩
theorem dX9_rules_30 : Dn cX9_rules 30 (.putfield 23) 3 33 := ⟨by decide +kernel, rfl⟩
theorem dX9_rules_33 : Dn cX9_rules 33 (.aload_n 0) 1 34 := ⟨by decide +kernel, rfl⟩
theorem dX9_rules_34 : Dn cX9_rules 34 (.iconst 0) 1 35 := ⟨by decide +kernel, rfl⟩
theorem dX9_rules_35 : Dn cX9_rules 35 (.putfield 86) 3 38 := ⟨by decide +kernel, rfl⟩
theorem dX9_rules_38 : Dn cX9_rules 38 (.iconst 1) 1 39 := ⟨by decide +kernel, rfl⟩
theorem dX9_rules_39 : Dn cX9_rules 39 (.ireturn) 1 40 := ⟨by decide +kernel, rfl⟩
theorem dX9_scoreOf_0 : Dn cX9_scoreOf 0 (.iload_n 2) 1 1 := ⟨by decide +kernel, rfl⟩
theorem dX9_scoreOf_1 : Dn cX9_scoreOf 1 (.iconst 3) 1 2 := ⟨by decide +kernel, rfl⟩
theorem dX9_scoreOf_2 : Dn cX9_scoreOf 2 (.aload_n 0) 1 3 := ⟨by decide +kernel, rfl⟩
theorem dX9_scoreOf_3 : Dn cX9_scoreOf 3 (.getfield 7) 3 6 := ⟨by decide +kernel, rfl⟩
theorem dX9_scoreOf_6 : Dn cX9_scoreOf 6 (.iload_n 1) 1 7 := ⟨by decide +kernel, rfl⟩
theorem dX9_scoreOf_7 : Dn cX9_scoreOf 7 (.iaload) 1 8 := ⟨by decide +kernel, rfl⟩
theorem dX9_scoreOf_8 : Dn cX9_scoreOf 8 (.iconst 4) 1 9 := ⟨by decide +kernel, rfl⟩
theorem dX9_scoreOf_9 : Dn cX9_scoreOf 9 (.isub) 1 10 := ⟨by decide +kernel, rfl⟩
theorem dX9_scoreOf_10 : Dn cX9_scoreOf 10 (.invokestatic 71) 3 13 := ⟨by decide +kernel, rfl⟩
theorem dX9_scoreOf_13 : Dj cX9_scoreOf 13 (fun o => .ifCond .eq o) (19) 3 16 32 := ⟨by decide +kernel, rfl, by decide⟩
theorem dX9_scoreOf_16 : Dn cX9_scoreOf 16 (.iload_n 3) 1 17 := ⟨by decide +kernel, rfl⟩
theorem dX9_scoreOf_17 : Dn cX9_scoreOf 17 (.iconst 3) 1 18 := ⟨by decide +kernel, rfl⟩
theorem dX9_scoreOf_18 : Dn cX9_scoreOf 18 (.aload_n 0) 1 19 := ⟨by decide +kernel, rfl⟩
theorem dX9_scoreOf_19 : Dn cX9_scoreOf 19 (.getfield 13) 3 22 := ⟨by decide +kernel, rfl⟩
theorem dX9_scoreOf_22 : Dn cX9_scoreOf 22 (.iload_n 1) 1 23 := ⟨by decide +kernel, rfl⟩
theorem dX9_scoreOf_23 : Dn cX9_scoreOf 23 (.iaload) 1 24 := ⟨by decide +kernel, rfl⟩
theorem dX9_scoreOf_24 : Dn cX9_scoreOf 24 (.iconst 4) 1 25 := ⟨by decide +kernel, rfl⟩
theorem dX9_scoreOf_25 : Dn cX9_scoreOf 25 (.isub) 1 26 := ⟨by decide +kernel, rfl⟩
theorem dX9_scoreOf_26 : Dn cX9_scoreOf 26 (.invokestatic 71) 3 29 := ⟨by decide +kernel, rfl⟩
theorem dX9_scoreOf_29 : Dj cX9_scoreOf 29 (fun o => .ifCond .ne o) (5) 3 32 34 := ⟨by decide +kernel, rfl, by decide⟩
theorem dX9_scoreOf_32 : Dn cX9_scoreOf 32 (.iconst 0) 1 33 := ⟨by decide +kernel, rfl⟩
theorem dX9_scoreOf_33 : Dn cX9_scoreOf 33 (.ireturn) 1 34 := ⟨by decide +kernel, rfl⟩
theorem dX9_scoreOf_34 : Dn cX9_scoreOf 34 (.iconst (-1)) 1 35 := ⟨by decide +kernel, rfl⟩
theorem dX9_scoreOf_35 : Dn cX9_scoreOf 35 (.istore 4) 2 37 := ⟨by decide +kernel, rfl⟩
theorem dX9_scoreOf_37 : Dn cX9_scoreOf 37 (.iconst 0) 1 38 := ⟨by decide +kernel, rfl⟩
theorem dX9_scoreOf_38 : Dn cX9_scoreOf 38 (.istore 5) 2 40 := ⟨by decide +kernel, rfl⟩
theorem dX9_scoreOf_40 : Dn cX9_scoreOf 40 (.iload 5) 2 42 := ⟨by decide +kernel, rfl⟩
theorem dX9_scoreOf_42 : Dn cX9_scoreOf 42 (.iconst 4) 1 43 := ⟨by decide +kernel, rfl⟩
theorem dX9_scoreOf_43 : Dj cX9_scoreOf 43 (fun o => .if_icmp .ge o) (160) 3 46 203 := ⟨by decide +kernel, rfl, by decide⟩
theorem dX9_scoreOf_46 : Dn cX9_scoreOf 46 (.iload 5) 2 48 := ⟨by decide +kernel, rfl⟩
theorem dX9_scoreOf_48 : Dn cX9_scoreOf 48 (.iconst 1) 1 49 := ⟨by decide +kernel, rfl⟩
theorem dX9_scoreOf_49 : Dj cX9_scoreOf 49 (fun o => .if_icmp .ne o) (7) 3 52 56 := ⟨by decide +kernel, rfl, by decide⟩
theorem dX9_scoreOf_52 : Dn cX9_scoreOf 52 (.iconst 0) 1 53 := ⟨by decide +kernel, rfl⟩
theorem dX9_scoreOf_53 : Dj cX9_scoreOf 53 .goto (4) 3 56 57 := ⟨by decide +kernel, rfl, by decide⟩
theorem dX9_scoreOf_56 : Dn cX9_scoreOf 56 (.iconst 1) 1 57 := ⟨by decide +kernel, rfl⟩
theorem dX9_scoreOf_57 : Dn cX9_scoreOf 57 (.istore 6) 2 59 := ⟨by decide +kernel, rfl⟩
theorem dX9_scoreOf_59 : Dn cX9_scoreOf 59 (.iload 5) 2 61 := ⟨by decide +kernel, rfl⟩
theorem dX9_scoreOf_61 : Dj cX9_scoreOf 61 (fun o => .ifCond .ne o) (7) 3 64 68 := ⟨by decide +kernel, rfl, by decide⟩
theorem dX9_scoreOf_64 : Dn cX9_scoreOf 64 (.iconst 0) 1 65 := ⟨by decide +kernel, rfl⟩
theorem dX9_scoreOf_65 : Dj cX9_scoreOf 65 .goto (14) 3 68 79 := ⟨by decide +kernel, rfl, by decide⟩
theorem dX9_scoreOf_68 : Dn cX9_scoreOf 68 (.iload 5) 2 70 := ⟨by decide +kernel, rfl⟩
theorem dX9_scoreOf_70 : Dn cX9_scoreOf 70 (.iconst 3) 1 71 := ⟨by decide +kernel, rfl⟩
theorem dX9_scoreOf_71 : Dj cX9_scoreOf 71 (fun o => .if_icmp .ne o) (7) 3 74 78 := ⟨by decide +kernel, rfl, by decide⟩
theorem dX9_scoreOf_74 : Dn cX9_scoreOf 74 (.iconst (-1)) 1 75 := ⟨by decide +kernel, rfl⟩
theorem dX9_scoreOf_75 : Dj cX9_scoreOf 75 .goto (4) 3 78 79 := ⟨by decide +kernel, rfl, by decide⟩
theorem dX9_scoreOf_78 : Dn cX9_scoreOf 78 (.iconst 1) 1 79 := ⟨by decide +kernel, rfl⟩
theorem dX9_scoreOf_79 : Dn cX9_scoreOf 79 (.istore 7) 2 81 := ⟨by decide +kernel, rfl⟩
theorem dX9_scoreOf_81 : Dn cX9_scoreOf 81 (.iconst 0) 1 82 := ⟨by decide +kernel, rfl⟩
theorem dX9_scoreOf_82 : Dn cX9_scoreOf 82 (.istore 8) 2 84 := ⟨by decide +kernel, rfl⟩
theorem dX9_scoreOf_84 : Dn cX9_scoreOf 84 (.iconst 0) 1 85 := ⟨by decide +kernel, rfl⟩
theorem dX9_scoreOf_85 : Dn cX9_scoreOf 85 (.istore 9) 2 87 := ⟨by decide +kernel, rfl⟩
theorem dX9_scoreOf_87 : Dn cX9_scoreOf 87 (.iload 9) 2 89 := ⟨by decide +kernel, rfl⟩
theorem dX9_scoreOf_89 : Dn cX9_scoreOf 89 (.bipush 9) 2 91 := ⟨by decide +kernel, rfl⟩
theorem dX9_scoreOf_91 : Dj cX9_scoreOf 91 (fun o => .if_icmp .ge o) (85) 3 94 176 := ⟨by decide +kernel, rfl, by decide⟩
theorem dX9_scoreOf_94 : Dn cX9_scoreOf 94 (.iload_n 2) 1 95 := ⟨by decide +kernel, rfl⟩
theorem dX9_scoreOf_95 : Dn cX9_scoreOf 95 (.iload 9) 2 97 := ⟨by decide +kernel, rfl⟩
theorem dX9_scoreOf_97 : Dn cX9_scoreOf 97 (.iconst 3) 1 98 := ⟨by decide +kernel, rfl⟩
theorem dX9_scoreOf_98 : Dn cX9_scoreOf 98 (.irem) 1 99 := ⟨by decide +kernel, rfl⟩
theorem dX9_scoreOf_99 : Dn cX9_scoreOf 99 (.iadd) 1 100 := ⟨by decide +kernel, rfl⟩
theorem dX9_scoreOf_100 : Dn cX9_scoreOf 100 (.iconst 1) 1 101 := ⟨by decide +kernel, rfl⟩
theorem dX9_scoreOf_101 : Dn cX9_scoreOf 101 (.isub) 1 102 := ⟨by decide +kernel, rfl⟩
theorem dX9_scoreOf_102 : Dn cX9_scoreOf 102 (.istore 10) 2 104 := ⟨by decide +kernel, rfl⟩
theorem dX9_scoreOf_104 : Dn cX9_scoreOf 104 (.iload_n 3) 1 105 := ⟨by decide +kernel, rfl⟩
theorem dX9_scoreOf_105 : Dn cX9_scoreOf 105 (.iload 9) 2 107 := ⟨by decide +kernel, rfl⟩
theorem dX9_scoreOf_107 : Dn cX9_scoreOf 107 (.iconst 3) 1 108 := ⟨by decide +kernel, rfl⟩
theorem dX9_scoreOf_108 : Dn cX9_scoreOf 108 (.idiv) 1 109 := ⟨by decide +kernel, rfl⟩
theorem dX9_scoreOf_109 : Dn cX9_scoreOf 109 (.iadd) 1 110 := ⟨by decide +kernel, rfl⟩
theorem dX9_scoreOf_110 : Dn cX9_scoreOf 110 (.iconst 1) 1 111 := ⟨by decide +kernel, rfl⟩
theorem dX9_scoreOf_111 : Dn cX9_scoreOf 111 (.isub) 1 112 := ⟨by decide +kernel, rfl⟩
theorem dX9_scoreOf_112 : Dn cX9_scoreOf 112 (.istore 11) 2 114 := ⟨by decide +kernel, rfl⟩
theorem dX9_scoreOf_114 : Dn cX9_scoreOf 114 (.aload_n 0) 1 115 := ⟨by decide +kernel, rfl⟩
theorem dX9_scoreOf_115 : Dn cX9_scoreOf 115 (.iload_n 1) 1 116 := ⟨by decide +kernel, rfl⟩
theorem dX9_scoreOf_116 : Dn cX9_scoreOf 116 (.iload 10) 2 118 := ⟨by decide +kernel, rfl⟩
theorem dX9_scoreOf_118 : Dn cX9_scoreOf 118 (.iload 11) 2 120 := ⟨by decide +kernel, rfl⟩
theorem dX9_scoreOf_120 : Dn cX9_scoreOf 120 (.invokevirtual 99) 3 123 := ⟨by decide +kernel, rfl⟩
theorem dX9_scoreOf_123 : Dn cX9_scoreOf 123 (.istore 12) 2 125 := ⟨by decide +kernel, rfl⟩
theorem dX9_scoreOf_125 : Dn cX9_scoreOf 125 (.aload_n 0) 1 126 := ⟨by decide +kernel, rfl⟩
theorem dX9_scoreOf_126 : Dn cX9_scoreOf 126 (.iload_n 1) 1 127 := ⟨by decide +kernel, rfl⟩
theorem dX9_scoreOf_127 : Dn cX9_scoreOf 127 (.iload 10) 2 129 := ⟨by decide +kernel, rfl⟩
theorem dX9_scoreOf_129 : Dn cX9_scoreOf 129 (.iload 6) 2 131 := ⟨by decide +kernel, rfl⟩
theorem dX9_scoreOf_131 : Dn cX9_scoreOf 131 (.iadd) 1 132 := ⟨by decide +kernel, rfl⟩
theorem dX9_scoreOf_132 : Dn cX9_scoreOf 132 (.iload 11) 2 134 := ⟨by decide +kernel, rfl⟩
theorem dX9_scoreOf_134 : Dn cX9_scoreOf 134 (.iload 7) 2 136 := ⟨by decide +kernel, rfl⟩
theorem dX9_scoreOf_136 : Dn cX9_scoreOf 136 (.iadd) 1 137 := ⟨by decide +kernel, rfl⟩
theorem dX9_scoreOf_137 : Dn cX9_scoreOf 137 (.invokevirtual 99) 3 140 := ⟨by decide +kernel, rfl⟩
theorem dX9_scoreOf_140 : Dn cX9_scoreOf 140 (.istore 13) 2 142 := ⟨by decide +kernel, rfl⟩
theorem dX9_scoreOf_142 : Dn cX9_scoreOf 142 (.iload 12) 2 144 := ⟨by decide +kernel, rfl⟩
theorem dX9_scoreOf_144 : Dj cX9_scoreOf 144 (fun o => .ifCond .lt o) (8) 3 147 152 := ⟨by decide +kernel, rfl, by decide⟩
theorem dX9_scoreOf_147 : Dn cX9_scoreOf 147 (.iload 13) 2 149 := ⟨by decide +kernel, rfl⟩
theorem dX9_scoreOf_149 : Dj cX9_scoreOf 149 (fun o => .ifCond .ge o) (5) 3 152 154 := ⟨by decide +kernel, rfl, by decide⟩
theorem dX9_scoreOf_152 : Dn cX9_scoreOf 152 (.iconst 0) 1 153 := ⟨by decide +kernel, rfl⟩
theorem dX9_scoreOf_153 : Dn cX9_scoreOf 153 (.ireturn) 1 154 := ⟨by decide +kernel, rfl⟩
theorem dX9_scoreOf_154 : Dn cX9_scoreOf 154 (.iload 8) 2 156 := ⟨by decide +kernel, rfl⟩
theorem dX9_scoreOf_156 : Dn cX9_scoreOf 156 (.iload 12) 2 158 := ⟨by decide +kernel, rfl⟩
theorem dX9_scoreOf_158 : Dn cX9_scoreOf 158 (.iload 13) 2 160 := ⟨by decide +kernel, rfl⟩
theorem dX9_scoreOf_160 : Dn cX9_scoreOf 160 (.isub) 1 161 := ⟨by decide +kernel, rfl⟩
theorem dX9_scoreOf_161 : Dn cX9_scoreOf 161 (.iload 12) 2 163 := ⟨by decide +kernel, rfl⟩
theorem dX9_scoreOf_163 : Dn cX9_scoreOf 163 (.iload 13) 2 165 := ⟨by decide +kernel, rfl⟩
theorem dX9_scoreOf_165 : Dn cX9_scoreOf 165 (.isub) 1 166 := ⟨by decide +kernel, rfl⟩
theorem dX9_scoreOf_166 : Dn cX9_scoreOf 166 (.imul) 1 167 := ⟨by decide +kernel, rfl⟩
theorem dX9_scoreOf_167 : Dn cX9_scoreOf 167 (.iadd) 1 168 := ⟨by decide +kernel, rfl⟩
theorem dX9_scoreOf_168 : Dn cX9_scoreOf 168 (.istore 8) 2 170 := ⟨by decide +kernel, rfl⟩
theorem dX9_scoreOf_170 : Dn cX9_scoreOf 170 (.iinc 9 1) 3 173 := ⟨by decide +kernel, rfl⟩
theorem dX9_scoreOf_173 : Dj cX9_scoreOf 173 .goto (-86) 3 176 87 := ⟨by decide +kernel, rfl, by decide⟩
theorem dX9_scoreOf_176 : Dn cX9_scoreOf 176 (.iload 4) 2 178 := ⟨by decide +kernel, rfl⟩
theorem dX9_scoreOf_178 : Dj cX9_scoreOf 178 (fun o => .ifCond .lt o) (10) 3 181 188 := ⟨by decide +kernel, rfl, by decide⟩
theorem dX9_scoreOf_181 : Dn cX9_scoreOf 181 (.iload 8) 2 183 := ⟨by decide +kernel, rfl⟩
theorem dX9_scoreOf_183 : Dn cX9_scoreOf 183 (.iload 4) 2 185 := ⟨by decide +kernel, rfl⟩
theorem dX9_scoreOf_185 : Dj cX9_scoreOf 185 (fun o => .if_icmp .ge o) (8) 3 188 193 := ⟨by decide +kernel, rfl, by decide⟩
theorem dX9_scoreOf_188 : Dn cX9_scoreOf 188 (.iload 8) 2 190 := ⟨by decide +kernel, rfl⟩
theorem dX9_scoreOf_190 : Dj cX9_scoreOf 190 .goto (5) 3 193 195 := ⟨by decide +kernel, rfl, by decide⟩
theorem dX9_scoreOf_193 : Dn cX9_scoreOf 193 (.iload 4) 2 195 := ⟨by decide +kernel, rfl⟩
theorem dX9_scoreOf_195 : Dn cX9_scoreOf 195 (.istore 4) 2 197 := ⟨by decide +kernel, rfl⟩
theorem dX9_scoreOf_197 : Dn cX9_scoreOf 197 (.iinc 5 1) 3 200 := ⟨by decide +kernel, rfl⟩
theorem dX9_scoreOf_200 : Dj cX9_scoreOf 200 .goto (-160) 3 203 40 := ⟨by decide +kernel, rfl, by decide⟩
theorem dX9_scoreOf_203 : Dn cX9_scoreOf 203 (.iload 4) 2 205 := ⟨by decide +kernel, rfl⟩
theorem dX9_scoreOf_205 : Dn cX9_scoreOf 205 (.ireturn) 1 206 := ⟨by decide +kernel, rfl⟩
theorem dX9_signOf_0 : Dn cX9_signOf 0 (.iconst 0) 1 1 := ⟨by decide +kernel, rfl⟩
theorem dX9_signOf_1 : Dn cX9_signOf 1 (.istore 4) 2 3 := ⟨by decide +kernel, rfl⟩
theorem dX9_signOf_3 : Dn cX9_signOf 3 (.iconst 0) 1 4 := ⟨by decide +kernel, rfl⟩
theorem dX9_signOf_4 : Dn cX9_signOf 4 (.istore 5) 2 6 := ⟨by decide +kernel, rfl⟩
theorem dX9_signOf_6 : Dn cX9_signOf 6 (.iload 5) 2 8 := ⟨by decide +kernel, rfl⟩
theorem dX9_signOf_8 : Dn cX9_signOf 8 (.bipush 12) 2 10 := ⟨by decide +kernel, rfl⟩
theorem dX9_signOf_10 : Dj cX9_signOf 10 (fun o => .if_icmp .ge o) (75) 3 13 85 := ⟨by decide +kernel, rfl, by decide⟩
theorem dX9_signOf_13 : Dn cX9_signOf 13 (.aload_n 0) 1 14 := ⟨by decide +kernel, rfl⟩
theorem dX9_signOf_14 : Dn cX9_signOf 14 (.iload_n 1) 1 15 := ⟨by decide +kernel, rfl⟩
theorem dX9_signOf_15 : Dn cX9_signOf 15 (.iload_n 2) 1 16 := ⟨by decide +kernel, rfl⟩
theorem dX9_signOf_16 : Dn cX9_signOf 16 (.iload 5) 2 18 := ⟨by decide +kernel, rfl⟩
theorem dX9_signOf_18 : Dn cX9_signOf 18 (.iconst 5) 1 19 := ⟨by decide +kernel, rfl⟩
theorem dX9_signOf_19 : Dn cX9_signOf 19 (.irem) 1 20 := ⟨by decide +kernel, rfl⟩
theorem dX9_signOf_20 : Dn cX9_signOf 20 (.iadd) 1 21 := ⟨by decide +kernel, rfl⟩
theorem dX9_signOf_21 : Dn cX9_signOf 21 (.iconst 2) 1 22 := ⟨by decide +kernel, rfl⟩
theorem dX9_signOf_22 : Dn cX9_signOf 22 (.isub) 1 23 := ⟨by decide +kernel, rfl⟩
theorem dX9_signOf_23 : Dn cX9_signOf 23 (.iload_n 3) 1 24 := ⟨by decide +kernel, rfl⟩
theorem dX9_signOf_24 : Dn cX9_signOf 24 (.iload 5) 2 26 := ⟨by decide +kernel, rfl⟩
theorem dX9_signOf_26 : Dn cX9_signOf 26 (.iconst 3) 1 27 := ⟨by decide +kernel, rfl⟩
theorem dX9_signOf_27 : Dn cX9_signOf 27 (.irem) 1 28 := ⟨by decide +kernel, rfl⟩
theorem dX9_signOf_28 : Dn cX9_signOf 28 (.iadd) 1 29 := ⟨by decide +kernel, rfl⟩
theorem dX9_signOf_29 : Dn cX9_signOf 29 (.iconst 1) 1 30 := ⟨by decide +kernel, rfl⟩
theorem dX9_signOf_30 : Dn cX9_signOf 30 (.isub) 1 31 := ⟨by decide +kernel, rfl⟩
theorem dX9_signOf_31 : Dn cX9_signOf 31 (.invokevirtual 99) 3 34 := ⟨by decide +kernel, rfl⟩
theorem dX9_signOf_34 : Dn cX9_signOf 34 (.istore 6) 2 36 := ⟨by decide +kernel, rfl⟩
theorem dX9_signOf_36 : Dn cX9_signOf 36 (.aload_n 0) 1 37 := ⟨by decide +kernel, rfl⟩
theorem dX9_signOf_37 : Dn cX9_signOf 37 (.iload_n 1) 1 38 := ⟨by decide +kernel, rfl⟩
theorem dX9_signOf_38 : Dn cX9_signOf 38 (.iload_n 2) 1 39 := ⟨by decide +kernel, rfl⟩
theorem dX9_signOf_39 : Dn cX9_signOf 39 (.iconst 2) 1 40 := ⟨by decide +kernel, rfl⟩
theorem dX9_signOf_40 : Dn cX9_signOf 40 (.iadd) 1 41 := ⟨by decide +kernel, rfl⟩
theorem dX9_signOf_41 : Dn cX9_signOf 41 (.iload 5) 2 43 := ⟨by decide +kernel, rfl⟩
theorem dX9_signOf_43 : Dn cX9_signOf 43 (.iconst 4) 1 44 := ⟨by decide +kernel, rfl⟩
theorem dX9_signOf_44 : Dn cX9_signOf 44 (.irem) 1 45 := ⟨by decide +kernel, rfl⟩
theorem dX9_signOf_45 : Dn cX9_signOf 45 (.isub) 1 46 := ⟨by decide +kernel, rfl⟩
theorem dX9_signOf_46 : Dn cX9_signOf 46 (.iload_n 3) 1 47 := ⟨by decide +kernel, rfl⟩
theorem dX9_signOf_47 : Dn cX9_signOf 47 (.iload 5) 2 49 := ⟨by decide +kernel, rfl⟩
theorem dX9_signOf_49 : Dn cX9_signOf 49 (.iconst 5) 1 50 := ⟨by decide +kernel, rfl⟩
theorem dX9_signOf_50 : Dn cX9_signOf 50 (.irem) 1 51 := ⟨by decide +kernel, rfl⟩
theorem dX9_signOf_51 : Dn cX9_signOf 51 (.iadd) 1 52 := ⟨by decide +kernel, rfl⟩
theorem dX9_signOf_52 : Dn cX9_signOf 52 (.iconst 2) 1 53 := ⟨by decide +kernel, rfl⟩
theorem dX9_signOf_53 : Dn cX9_signOf 53 (.isub) 1 54 := ⟨by decide +kernel, rfl⟩
theorem dX9_signOf_54 : Dn cX9_signOf 54 (.invokevirtual 99) 3 57 := ⟨by decide +kernel, rfl⟩
theorem dX9_signOf_57 : Dn cX9_signOf 57 (.istore 7) 2 59 := ⟨by decide +kernel, rfl⟩
theorem dX9_signOf_59 : Dn cX9_signOf 59 (.iload 4) 2 61 := ⟨by decide +kernel, rfl⟩
theorem dX9_signOf_61 : Dn cX9_signOf 61 (.iload 6) 2 63 := ⟨by decide +kernel, rfl⟩
theorem dX9_signOf_63 : Dn cX9_signOf 63 (.iload 7) 2 65 := ⟨by decide +kernel, rfl⟩
theorem dX9_signOf_65 : Dj cX9_signOf 65 (fun o => .if_icmp .ge o) (10) 3 68 75 := ⟨by decide +kernel, rfl, by decide⟩
theorem dX9_signOf_68 : Dn cX9_signOf 68 (.iconst 1) 1 69 := ⟨by decide +kernel, rfl⟩
theorem dX9_signOf_69 : Dn cX9_signOf 69 (.iload 5) 2 71 := ⟨by decide +kernel, rfl⟩
theorem dX9_signOf_71 : Dn cX9_signOf 71 (.ishl) 1 72 := ⟨by decide +kernel, rfl⟩
theorem dX9_signOf_72 : Dj cX9_signOf 72 .goto (4) 3 75 76 := ⟨by decide +kernel, rfl, by decide⟩
theorem dX9_signOf_75 : Dn cX9_signOf 75 (.iconst 0) 1 76 := ⟨by decide +kernel, rfl⟩
theorem dX9_signOf_76 : Dn cX9_signOf 76 (.ior) 1 77 := ⟨by decide +kernel, rfl⟩
theorem dX9_signOf_77 : Dn cX9_signOf 77 (.istore 4) 2 79 := ⟨by decide +kernel, rfl⟩
theorem dX9_signOf_79 : Dn cX9_signOf 79 (.iinc 5 1) 3 82 := ⟨by decide +kernel, rfl⟩
theorem dX9_signOf_82 : Dj cX9_signOf 82 .goto (-76) 3 85 6 := ⟨by decide +kernel, rfl, by decide⟩
theorem dX9_signOf_85 : Dn cX9_signOf 85 (.iload 4) 2 87 := ⟨by decide +kernel, rfl⟩
theorem dX9_signOf_87 : Dn cX9_signOf 87 (.ireturn) 1 88 := ⟨by decide +kernel, rfl⟩
theorem dX9_isMark_0 : Dn cX9_isMark 0 (.aload_n 0) 1 1 := ⟨by decide +kernel, rfl⟩
theorem dX9_isMark_1 : Dn cX9_isMark 1 (.getfield 26) 3 4 := ⟨by decide +kernel, rfl⟩
theorem dX9_isMark_4 : Dn cX9_isMark 4 (.sipush 400) 3 7 := ⟨by decide +kernel, rfl⟩
theorem dX9_isMark_7 : Dn cX9_isMark 7 (.iload_n 1) 1 8 := ⟨by decide +kernel, rfl⟩
theorem dX9_isMark_8 : Dn cX9_isMark 8 (.imul) 1 9 := ⟨by decide +kernel, rfl⟩
theorem dX9_isMark_9 : Dn cX9_isMark 9 (.bipush 20) 2 11 := ⟨by decide +kernel, rfl⟩
theorem dX9_isMark_11 : Dn cX9_isMark 11 (.iload_n 3) 1 12 := ⟨by decide +kernel, rfl⟩
theorem dX9_isMark_12 : Dn cX9_isMark 12 (.imul) 1 13 := ⟨by decide +kernel, rfl⟩
theorem dX9_isMark_13 : Dn cX9_isMark 13 (.iadd) 1 14 := ⟨by decide +kernel, rfl⟩
theorem dX9_isMark_14 : Dn cX9_isMark 14 (.iload_n 2) 1 15 := ⟨by decide +kernel, rfl⟩
theorem dX9_isMark_15 : Dn cX9_isMark 15 (.iadd) 1 16 := ⟨by decide +kernel, rfl⟩
theorem dX9_isMark_16 : Dn cX9_isMark 16 (.iaload) 1 17 := ⟨by decide +kernel, rfl⟩
theorem dX9_isMark_17 : Dn cX9_isMark 17 (.istore 4) 2 19 := ⟨by decide +kernel, rfl⟩
theorem dX9_isMark_19 : Dn cX9_isMark 19 (.iload 4) 2 21 := ⟨by decide +kernel, rfl⟩
theorem dX9_isMark_21 : Dn cX9_isMark 21 (.aload_n 0) 1 22 := ⟨by decide +kernel, rfl⟩
theorem dX9_isMark_22 : Dn cX9_isMark 22 (.getfield 19) 3 25 := ⟨by decide +kernel, rfl⟩
theorem dX9_isMark_25 : Dj cX9_isMark 25 (fun o => .if_icmp .lt o) (7) 3 28 32 := ⟨by decide +kernel, rfl, by decide⟩
theorem dX9_isMark_28 : Dn cX9_isMark 28 (.iconst 1) 1 29 := ⟨by decide +kernel, rfl⟩
theorem dX9_isMark_29 : Dj cX9_isMark 29 .goto (4) 3 32 33 := ⟨by decide +kernel, rfl, by decide⟩
theorem dX9_isMark_32 : Dn cX9_isMark 32 (.iconst 0) 1 33 := ⟨by decide +kernel, rfl⟩
theorem dX9_isMark_33 : Dn cX9_isMark 33 (.istore 5) 2 35 := ⟨by decide +kernel, rfl⟩
theorem dX9_isMark_35 : Dn cX9_isMark 35 (.iconst 0) 1 36 := ⟨by decide +kernel, rfl⟩
theorem dX9_isMark_36 : Dn cX9_isMark 36 (.istore 6) 2 38 := ⟨by decide +kernel, rfl⟩
theorem dX9_isMark_38 : Dn cX9_isMark 38 (.iload 6) 2 40 := ⟨by decide +kernel, rfl⟩
theorem dX9_isMark_40 : Dn cX9_isMark 40 (.bipush 25) 2 42 := ⟨by decide +kernel, rfl⟩
theorem dX9_isMark_42 : Dj cX9_isMark 42 (fun o => .if_icmp .ge o) (83) 3 45 125 := ⟨by decide +kernel, rfl, by decide⟩
theorem dX9_isMark_45 : Dn cX9_isMark 45 (.iload 5) 2 47 := ⟨by decide +kernel, rfl⟩
theorem dX9_isMark_47 : Dj cX9_isMark 47 (fun o => .ifCond .eq o) (78) 3 50 125 := ⟨by decide +kernel, rfl, by decide⟩
theorem dX9_isMark_50 : Dn cX9_isMark 50 (.iload_n 2) 1 51 := ⟨by decide +kernel, rfl⟩
theorem dX9_isMark_51 : Dn cX9_isMark 51 (.iload 6) 2 53 := ⟨by decide +kernel, rfl⟩
theorem dX9_isMark_53 : Dn cX9_isMark 53 (.iconst 5) 1 54 := ⟨by decide +kernel, rfl⟩
theorem dX9_isMark_54 : Dn cX9_isMark 54 (.irem) 1 55 := ⟨by decide +kernel, rfl⟩
theorem dX9_isMark_55 : Dn cX9_isMark 55 (.iadd) 1 56 := ⟨by decide +kernel, rfl⟩
theorem dX9_isMark_56 : Dn cX9_isMark 56 (.iconst 2) 1 57 := ⟨by decide +kernel, rfl⟩
theorem dX9_isMark_57 : Dn cX9_isMark 57 (.isub) 1 58 := ⟨by decide +kernel, rfl⟩
theorem dX9_isMark_58 : Dn cX9_isMark 58 (.istore 7) 2 60 := ⟨by decide +kernel, rfl⟩
theorem dX9_isMark_60 : Dn cX9_isMark 60 (.iload_n 3) 1 61 := ⟨by decide +kernel, rfl⟩
theorem dX9_isMark_61 : Dn cX9_isMark 61 (.iload 6) 2 63 := ⟨by decide +kernel, rfl⟩
theorem dX9_isMark_63 : Dn cX9_isMark 63 (.iconst 5) 1 64 := ⟨by decide +kernel, rfl⟩
theorem dX9_isMark_64 : Dn cX9_isMark 64 (.idiv) 1 65 := ⟨by decide +kernel, rfl⟩
theorem dX9_isMark_65 : Dn cX9_isMark 65 (.iadd) 1 66 := ⟨by decide +kernel, rfl⟩
theorem dX9_isMark_66 : Dn cX9_isMark 66 (.iconst 2) 1 67 := ⟨by decide +kernel, rfl⟩
theorem dX9_isMark_67 : Dn cX9_isMark 67 (.isub) 1 68 := ⟨by decide +kernel, rfl⟩
theorem dX9_isMark_68 : Dn cX9_isMark 68 (.istore 8) 2 70 := ⟨by decide +kernel, rfl⟩
theorem dX9_isMark_70 : Dn cX9_isMark 70 (.aload_n 0) 1 71 := ⟨by decide +kernel, rfl⟩
theorem dX9_isMark_71 : Dn cX9_isMark 71 (.getfield 26) 3 74 := ⟨by decide +kernel, rfl⟩
theorem dX9_isMark_74 : Dn cX9_isMark 74 (.sipush 400) 3 77 := ⟨by decide +kernel, rfl⟩
theorem dX9_isMark_77 : Dn cX9_isMark 77 (.iload_n 1) 1 78 := ⟨by decide +kernel, rfl⟩
theorem dX9_isMark_78 : Dn cX9_isMark 78 (.imul) 1 79 := ⟨by decide +kernel, rfl⟩
theorem dX9_isMark_79 : Dn cX9_isMark 79 (.bipush 20) 2 81 := ⟨by decide +kernel, rfl⟩
theorem dX9_isMark_81 : Dn cX9_isMark 81 (.iload 8) 2 83 := ⟨by decide +kernel, rfl⟩
theorem dX9_isMark_83 : Dn cX9_isMark 83 (.imul) 1 84 := ⟨by decide +kernel, rfl⟩
theorem dX9_isMark_84 : Dn cX9_isMark 84 (.iadd) 1 85 := ⟨by decide +kernel, rfl⟩
theorem dX9_isMark_85 : Dn cX9_isMark 85 (.iload 7) 2 87 := ⟨by decide +kernel, rfl⟩
theorem dX9_isMark_87 : Dn cX9_isMark 87 (.iadd) 1 88 := ⟨by decide +kernel, rfl⟩
theorem dX9_isMark_88 : Dn cX9_isMark 88 (.iaload) 1 89 := ⟨by decide +kernel, rfl⟩
theorem dX9_isMark_89 : Dn cX9_isMark 89 (.istore 9) 2 91 := ⟨by decide +kernel, rfl⟩
theorem dX9_isMark_91 : Dn cX9_isMark 91 (.iload 9) 2 93 := ⟨by decide +kernel, rfl⟩
theorem dX9_isMark_93 : Dn cX9_isMark 93 (.iload 4) 2 95 := ⟨by decide +kernel, rfl⟩
theorem dX9_isMark_95 : Dj cX9_isMark 95 (fun o => .if_icmp .lt o) (17) 3 98 112 := ⟨by decide +kernel, rfl, by decide⟩
theorem dX9_isMark_98 : Dn cX9_isMark 98 (.iload 9) 2 100 := ⟨by decide +kernel, rfl⟩
theorem dX9_isMark_100 : Dn cX9_isMark 100 (.iload 4) 2 102 := ⟨by decide +kernel, rfl⟩
theorem dX9_isMark_102 : Dj cX9_isMark 102 (fun o => .if_icmp .ne o) (14) 3 105 116 := ⟨by decide +kernel, rfl, by decide⟩
theorem dX9_isMark_105 : Dn cX9_isMark 105 (.iload 6) 2 107 := ⟨by decide +kernel, rfl⟩
theorem dX9_isMark_107 : Dn cX9_isMark 107 (.bipush 12) 2 109 := ⟨by decide +kernel, rfl⟩
theorem dX9_isMark_109 : Dj cX9_isMark 109 (fun o => .if_icmp .lt o) (7) 3 112 116 := ⟨by decide +kernel, rfl, by decide⟩
theorem dX9_isMark_112 : Dn cX9_isMark 112 (.iconst 1) 1 113 := ⟨by decide +kernel, rfl⟩
theorem dX9_isMark_113 : Dj cX9_isMark 113 .goto (4) 3 116 117 := ⟨by decide +kernel, rfl, by decide⟩
theorem dX9_isMark_116 : Dn cX9_isMark 116 (.iconst 0) 1 117 := ⟨by decide +kernel, rfl⟩
theorem dX9_isMark_117 : Dn cX9_isMark 117 (.istore 5) 2 119 := ⟨by decide +kernel, rfl⟩
theorem dX9_isMark_119 : Dn cX9_isMark 119 (.iinc 6 1) 3 122 := ⟨by decide +kernel, rfl⟩
theorem dX9_isMark_122 : Dj cX9_isMark 122 .goto (-84) 3 125 38 := ⟨by decide +kernel, rfl, by decide⟩
theorem dX9_isMark_125 : Dn cX9_isMark 125 (.iload 5) 2 127 := ⟨by decide +kernel, rfl⟩
theorem dX9_isMark_127 : Dn cX9_isMark 127 (.ireturn) 1 128 := ⟨by decide +kernel, rfl⟩
theorem dX9_layMarks_0 : Dn cX9_layMarks 0 (.iconst 0) 1 1 := ⟨by decide +kernel, rfl⟩
theorem dX9_layMarks_1 : Dn cX9_layMarks 1 (.istore_n 2) 1 2 := ⟨by decide +kernel, rfl⟩
theorem dX9_layMarks_2 : Dn cX9_layMarks 2 (.iload_n 2) 1 3 := ⟨by decide +kernel, rfl⟩
theorem dX9_layMarks_3 : Dn cX9_layMarks 3 (.aload_n 0) 1 4 := ⟨by decide +kernel, rfl⟩
theorem dX9_layMarks_4 : Dn cX9_layMarks 4 (.getfield 13) 3 7 := ⟨by decide +kernel, rfl⟩
theorem dX9_layMarks_7 : Dn cX9_layMarks 7 (.iload_n 1) 1 8 := ⟨by decide +kernel, rfl⟩
theorem dX9_layMarks_8 : Dn cX9_layMarks 8 (.iaload) 1 9 := ⟨by decide +kernel, rfl⟩
theorem dX9_layMarks_9 : Dj cX9_layMarks 9 (fun o => .if_icmp .ge o) (51) 3 12 60 := ⟨by decide +kernel, rfl, by decide⟩
theorem dX9_layMarks_12 : Dn cX9_layMarks 12 (.iconst 0) 1 13 := ⟨by decide +kernel, rfl⟩
theorem dX9_layMarks_13 : Dn cX9_layMarks 13 (.istore_n 3) 1 14 := ⟨by decide +kernel, rfl⟩
theorem dX9_layMarks_14 : Dn cX9_layMarks 14 (.iload_n 3) 1 15 := ⟨by decide +kernel, rfl⟩
theorem dX9_layMarks_15 : Dn cX9_layMarks 15 (.aload_n 0) 1 16 := ⟨by decide +kernel, rfl⟩
theorem dX9_layMarks_16 : Dn cX9_layMarks 16 (.getfield 7) 3 19 := ⟨by decide +kernel, rfl⟩
theorem dX9_layMarks_19 : Dn cX9_layMarks 19 (.iload_n 1) 1 20 := ⟨by decide +kernel, rfl⟩
theorem dX9_layMarks_20 : Dn cX9_layMarks 20 (.iaload) 1 21 := ⟨by decide +kernel, rfl⟩
theorem dX9_layMarks_21 : Dj cX9_layMarks 21 (fun o => .if_icmp .ge o) (33) 3 24 54 := ⟨by decide +kernel, rfl, by decide⟩
theorem dX9_layMarks_24 : Dn cX9_layMarks 24 (.aload_n 0) 1 25 := ⟨by decide +kernel, rfl⟩
theorem dX9_layMarks_25 : Dn cX9_layMarks 25 (.getfield 26) 3 28 := ⟨by decide +kernel, rfl⟩
theorem dX9_layMarks_28 : Dn cX9_layMarks 28 (.sipush 400) 3 31 := ⟨by decide +kernel, rfl⟩
theorem dX9_layMarks_31 : Dn cX9_layMarks 31 (.iload_n 1) 1 32 := ⟨by decide +kernel, rfl⟩
theorem dX9_layMarks_32 : Dn cX9_layMarks 32 (.imul) 1 33 := ⟨by decide +kernel, rfl⟩
theorem dX9_layMarks_33 : Dn cX9_layMarks 33 (.bipush 20) 2 35 := ⟨by decide +kernel, rfl⟩
theorem dX9_layMarks_35 : Dn cX9_layMarks 35 (.iload_n 2) 1 36 := ⟨by decide +kernel, rfl⟩
theorem dX9_layMarks_36 : Dn cX9_layMarks 36 (.imul) 1 37 := ⟨by decide +kernel, rfl⟩
theorem dX9_layMarks_37 : Dn cX9_layMarks 37 (.iadd) 1 38 := ⟨by decide +kernel, rfl⟩
theorem dX9_layMarks_38 : Dn cX9_layMarks 38 (.iload_n 3) 1 39 := ⟨by decide +kernel, rfl⟩
theorem dX9_layMarks_39 : Dn cX9_layMarks 39 (.iadd) 1 40 := ⟨by decide +kernel, rfl⟩
theorem dX9_layMarks_40 : Dn cX9_layMarks 40 (.aload_n 0) 1 41 := ⟨by decide +kernel, rfl⟩
theorem dX9_layMarks_41 : Dn cX9_layMarks 41 (.iload_n 1) 1 42 := ⟨by decide +kernel, rfl⟩
theorem dX9_layMarks_42 : Dn cX9_layMarks 42 (.iload_n 3) 1 43 := ⟨by decide +kernel, rfl⟩
theorem dX9_layMarks_43 : Dn cX9_layMarks 43 (.iload_n 2) 1 44 := ⟨by decide +kernel, rfl⟩
theorem dX9_layMarks_44 : Dn cX9_layMarks 44 (.invokevirtual 104) 3 47 := ⟨by decide +kernel, rfl⟩
theorem dX9_layMarks_47 : Dn cX9_layMarks 47 (.iastore) 1 48 := ⟨by decide +kernel, rfl⟩
theorem dX9_layMarks_48 : Dn cX9_layMarks 48 (.iinc 3 1) 3 51 := ⟨by decide +kernel, rfl⟩
theorem dX9_layMarks_51 : Dj cX9_layMarks 51 .goto (-37) 3 54 14 := ⟨by decide +kernel, rfl, by decide⟩
theorem dX9_layMarks_54 : Dn cX9_layMarks 54 (.iinc 2 1) 3 57 := ⟨by decide +kernel, rfl⟩
theorem dX9_layMarks_57 : Dj cX9_layMarks 57 .goto (-55) 3 60 2 := ⟨by decide +kernel, rfl, by decide⟩
theorem dX9_layMarks_60 : Dn cX9_layMarks 60 (.aload_n 0) 1 61 := ⟨by decide +kernel, rfl⟩
theorem dX9_layMarks_61 : Dn cX9_layMarks 61 (.getfield 29) 3 64 := ⟨by decide +kernel, rfl⟩
theorem dX9_layMarks_64 : Dn cX9_layMarks 64 (.iload_n 1) 1 65 := ⟨by decide +kernel, rfl⟩
theorem dX9_layMarks_65 : Dn cX9_layMarks 65 (.iconst 0) 1 66 := ⟨by decide +kernel, rfl⟩
theorem dX9_layMarks_66 : Dn cX9_layMarks 66 (.iastore) 1 67 := ⟨by decide +kernel, rfl⟩
theorem dX9_layMarks_67 : Dn cX9_layMarks 67 (.iconst 3) 1 68 := ⟨by decide +kernel, rfl⟩
theorem dX9_layMarks_68 : Dn cX9_layMarks 68 (.istore_n 2) 1 69 := ⟨by decide +kernel, rfl⟩
theorem dX9_layMarks_69 : Dn cX9_layMarks 69 (.iload_n 2) 1 70 := ⟨by decide +kernel, rfl⟩
theorem dX9_layMarks_70 : Dn cX9_layMarks 70 (.aload_n 0) 1 71 := ⟨by decide +kernel, rfl⟩
theorem dX9_layMarks_71 : Dn cX9_layMarks 71 (.getfield 13) 3 74 := ⟨by decide +kernel, rfl⟩
theorem dX9_layMarks_74 : Dn cX9_layMarks 74 (.iload_n 1) 1 75 := ⟨by decide +kernel, rfl⟩
theorem dX9_layMarks_75 : Dn cX9_layMarks 75 (.iaload) 1 76 := ⟨by decide +kernel, rfl⟩
theorem dX9_layMarks_76 : Dn cX9_layMarks 76 (.iconst 3) 1 77 := ⟨by decide +kernel, rfl⟩
theorem dX9_layMarks_77 : Dn cX9_layMarks 77 (.isub) 1 78 := ⟨by decide +kernel, rfl⟩
theorem dX9_layMarks_78 : Dj cX9_layMarks 78 (fun o => .if_icmp .ge o) (56) 3 81 134 := ⟨by decide +kernel, rfl, by decide⟩
theorem dX9_layMarks_81 : Dn cX9_layMarks 81 (.iconst 3) 1 82 := ⟨by decide +kernel, rfl⟩
theorem dX9_layMarks_82 : Dn cX9_layMarks 82 (.istore_n 3) 1 83 := ⟨by decide +kernel, rfl⟩
theorem dX9_layMarks_83 : Dn cX9_layMarks 83 (.iload_n 3) 1 84 := ⟨by decide +kernel, rfl⟩
theorem dX9_layMarks_84 : Dn cX9_layMarks 84 (.aload_n 0) 1 85 := ⟨by decide +kernel, rfl⟩
theorem dX9_layMarks_85 : Dn cX9_layMarks 85 (.getfield 7) 3 88 := ⟨by decide +kernel, rfl⟩
theorem dX9_layMarks_88 : Dn cX9_layMarks 88 (.iload_n 1) 1 89 := ⟨by decide +kernel, rfl⟩
theorem dX9_layMarks_89 : Dn cX9_layMarks 89 (.iaload) 1 90 := ⟨by decide +kernel, rfl⟩
theorem dX9_layMarks_90 : Dn cX9_layMarks 90 (.iconst 3) 1 91 := ⟨by decide +kernel, rfl⟩
theorem dX9_layMarks_91 : Dn cX9_layMarks 91 (.isub) 1 92 := ⟨by decide +kernel, rfl⟩
theorem dX9_layMarks_92 : Dj cX9_layMarks 92 (fun o => .if_icmp .ge o) (36) 3 95 128 := ⟨by decide +kernel, rfl, by decide⟩
theorem dX9_layMarks_95 : Dn cX9_layMarks 95 (.aload_n 0) 1 96 := ⟨by decide +kernel, rfl⟩
theorem dX9_layMarks_96 : Dn cX9_layMarks 96 (.iload_n 1) 1 97 := ⟨by decide +kernel, rfl⟩
theorem dX9_layMarks_97 : Dn cX9_layMarks 97 (.iload_n 3) 1 98 := ⟨by decide +kernel, rfl⟩
theorem dX9_layMarks_98 : Dn cX9_layMarks 98 (.iload_n 2) 1 99 := ⟨by decide +kernel, rfl⟩
theorem dX9_layMarks_99 : Dn cX9_layMarks 99 (.invokevirtual 107) 3 102 := ⟨by decide +kernel, rfl⟩
theorem dX9_layMarks_102 : Dj cX9_layMarks 102 (fun o => .ifCond .eq o) (20) 3 105 122 := ⟨by decide +kernel, rfl, by decide⟩
theorem dX9_layMarks_105 : Dn cX9_layMarks 105 (.aload_n 0) 1 106 := ⟨by decide +kernel, rfl⟩
theorem dX9_layMarks_106 : Dn cX9_layMarks 106 (.iload_n 1) 1 107 := ⟨by decide +kernel, rfl⟩
theorem dX9_layMarks_107 : Dn cX9_layMarks 107 (.sipush 400) 3 110 := ⟨by decide +kernel, rfl⟩
theorem dX9_layMarks_110 : Dn cX9_layMarks 110 (.iload_n 1) 1 111 := ⟨by decide +kernel, rfl⟩
theorem dX9_layMarks_111 : Dn cX9_layMarks 111 (.imul) 1 112 := ⟨by decide +kernel, rfl⟩
theorem dX9_layMarks_112 : Dn cX9_layMarks 112 (.bipush 20) 2 114 := ⟨by decide +kernel, rfl⟩
theorem dX9_layMarks_114 : Dn cX9_layMarks 114 (.iload_n 2) 1 115 := ⟨by decide +kernel, rfl⟩
theorem dX9_layMarks_115 : Dn cX9_layMarks 115 (.imul) 1 116 := ⟨by decide +kernel, rfl⟩
theorem dX9_layMarks_116 : Dn cX9_layMarks 116 (.iadd) 1 117 := ⟨by decide +kernel, rfl⟩
theorem dX9_layMarks_117 : Dn cX9_layMarks 117 (.iload_n 3) 1 118 := ⟨by decide +kernel, rfl⟩
theorem dX9_layMarks_118 : Dn cX9_layMarks 118 (.iadd) 1 119 := ⟨by decide +kernel, rfl⟩
theorem dX9_layMarks_119 : Dn cX9_layMarks 119 (.invokevirtual 110) 3 122 := ⟨by decide +kernel, rfl⟩
theorem dX9_layMarks_122 : Dn cX9_layMarks 122 (.iinc 3 1) 3 125 := ⟨by decide +kernel, rfl⟩
theorem dX9_layMarks_125 : Dj cX9_layMarks 125 .goto (-42) 3 128 83 := ⟨by decide +kernel, rfl, by decide⟩
theorem dX9_layMarks_128 : Dn cX9_layMarks 128 (.iinc 2 1) 3 131 := ⟨by decide +kernel, rfl⟩
theorem dX9_layMarks_131 : Dj cX9_layMarks 131 .goto (-62) 3 134 69 := ⟨by decide +kernel, rfl, by decide⟩
theorem dX9_layMarks_134 : Dn cX9_layMarks 134 (.iconst 0) 1 135 := ⟨by decide +kernel, rfl⟩
theorem dX9_layMarks_135 : Dn cX9_layMarks 135 (.istore_n 2) 1 136 := ⟨by decide +kernel, rfl⟩
theorem dX9_layMarks_136 : Dn cX9_layMarks 136 (.iload_n 2) 1 137 := ⟨by decide +kernel, rfl⟩
theorem dX9_layMarks_137 : Dn cX9_layMarks 137 (.aload_n 0) 1 138 := ⟨by decide +kernel, rfl⟩
theorem dX9_layMarks_138 : Dn cX9_layMarks 138 (.getfield 29) 3 141 := ⟨by decide +kernel, rfl⟩
theorem dX9_layMarks_141 : Dn cX9_layMarks 141 (.iload_n 1) 1 142 := ⟨by decide +kernel, rfl⟩
theorem dX9_layMarks_142 : Dn cX9_layMarks 142 (.iaload) 1 143 := ⟨by decide +kernel, rfl⟩
theorem dX9_layMarks_143 : Dj cX9_layMarks 143 (fun o => .if_icmp .ge o) (51) 3 146 194 := ⟨by decide +kernel, rfl, by decide⟩
theorem dX9_layMarks_146 : Dn cX9_layMarks 146 (.aload_n 0) 1 147 := ⟨by decide +kernel, rfl⟩
theorem dX9_layMarks_147 : Dn cX9_layMarks 147 (.getfield 32) 3 150 := ⟨by decide +kernel, rfl⟩
theorem dX9_layMarks_150 : Dn cX9_layMarks 150 (.bipush 16) 2 152 := ⟨by decide +kernel, rfl⟩
theorem dX9_layMarks_152 : Dn cX9_layMarks 152 (.iload_n 1) 1 153 := ⟨by decide +kernel, rfl⟩
theorem dX9_layMarks_153 : Dn cX9_layMarks 153 (.imul) 1 154 := ⟨by decide +kernel, rfl⟩
theorem dX9_layMarks_154 : Dn cX9_layMarks 154 (.iload_n 2) 1 155 := ⟨by decide +kernel, rfl⟩
theorem dX9_layMarks_155 : Dn cX9_layMarks 155 (.iadd) 1 156 := ⟨by decide +kernel, rfl⟩
theorem dX9_layMarks_156 : Dn cX9_layMarks 156 (.iaload) 1 157 := ⟨by decide +kernel, rfl⟩
theorem dX9_layMarks_157 : Dn cX9_layMarks 157 (.sipush 400) 3 160 := ⟨by decide +kernel, rfl⟩
theorem dX9_layMarks_160 : Dn cX9_layMarks 160 (.iload_n 1) 1 161 := ⟨by decide +kernel, rfl⟩
theorem dX9_layMarks_161 : Dn cX9_layMarks 161 (.imul) 1 162 := ⟨by decide +kernel, rfl⟩
theorem dX9_layMarks_162 : Dn cX9_layMarks 162 (.isub) 1 163 := ⟨by decide +kernel, rfl⟩
theorem dX9_layMarks_163 : Dn cX9_layMarks 163 (.istore_n 3) 1 164 := ⟨by decide +kernel, rfl⟩
theorem dX9_layMarks_164 : Dn cX9_layMarks 164 (.aload_n 0) 1 165 := ⟨by decide +kernel, rfl⟩
theorem dX9_layMarks_165 : Dn cX9_layMarks 165 (.getfield 35) 3 168 := ⟨by decide +kernel, rfl⟩
theorem dX9_layMarks_168 : Dn cX9_layMarks 168 (.bipush 16) 2 170 := ⟨by decide +kernel, rfl⟩
theorem dX9_layMarks_170 : Dn cX9_layMarks 170 (.iload_n 1) 1 171 := ⟨by decide +kernel, rfl⟩
theorem dX9_layMarks_171 : Dn cX9_layMarks 171 (.imul) 1 172 := ⟨by decide +kernel, rfl⟩
theorem dX9_layMarks_172 : Dn cX9_layMarks 172 (.iload_n 2) 1 173 := ⟨by decide +kernel, rfl⟩
theorem dX9_layMarks_173 : Dn cX9_layMarks 173 (.iadd) 1 174 := ⟨by decide +kernel, rfl⟩
theorem dX9_layMarks_174 : Dn cX9_layMarks 174 (.aload_n 0) 1 175 := ⟨by decide +kernel, rfl⟩
theorem dX9_layMarks_175 : Dn cX9_layMarks 175 (.iload_n 1) 1 176 := ⟨by decide +kernel, rfl⟩
theorem dX9_layMarks_176 : Dn cX9_layMarks 176 (.iload_n 3) 1 177 := ⟨by decide +kernel, rfl⟩
theorem dX9_layMarks_177 : Dn cX9_layMarks 177 (.bipush 20) 2 179 := ⟨by decide +kernel, rfl⟩
theorem dX9_layMarks_179 : Dn cX9_layMarks 179 (.irem) 1 180 := ⟨by decide +kernel, rfl⟩
theorem dX9_layMarks_180 : Dn cX9_layMarks 180 (.iload_n 3) 1 181 := ⟨by decide +kernel, rfl⟩
theorem dX9_layMarks_181 : Dn cX9_layMarks 181 (.bipush 20) 2 183 := ⟨by decide +kernel, rfl⟩
theorem dX9_layMarks_183 : Dn cX9_layMarks 183 (.idiv) 1 184 := ⟨by decide +kernel, rfl⟩
theorem dX9_layMarks_184 : Dn cX9_layMarks 184 (.invokevirtual 114) 3 187 := ⟨by decide +kernel, rfl⟩
theorem dX9_layMarks_187 : Dn cX9_layMarks 187 (.iastore) 1 188 := ⟨by decide +kernel, rfl⟩
theorem dX9_layMarks_188 : Dn cX9_layMarks 188 (.iinc 2 1) 3 191 := ⟨by decide +kernel, rfl⟩
theorem dX9_layMarks_191 : Dj cX9_layMarks 191 .goto (-55) 3 194 136 := ⟨by decide +kernel, rfl, by decide⟩
theorem dX9_layMarks_194 : Dn cX9_layMarks 194 (.return_) 1 195 := ⟨by decide +kernel, rfl⟩
theorem dX9_putMark_0 : Dn cX9_putMark 0 (.aload_n 0) 1 1 := ⟨by decide +kernel, rfl⟩
theorem dX9_putMark_1 : Dn cX9_putMark 1 (.getfield 29) 3 4 := ⟨by decide +kernel, rfl⟩
theorem dX9_putMark_4 : Dn cX9_putMark 4 (.iload_n 1) 1 5 := ⟨by decide +kernel, rfl⟩
theorem dX9_putMark_5 : Dn cX9_putMark 5 (.iaload) 1 6 := ⟨by decide +kernel, rfl⟩
theorem dX9_putMark_6 : Dn cX9_putMark 6 (.istore_n 3) 1 7 := ⟨by decide +kernel, rfl⟩
theorem dX9_putMark_7 : Dn cX9_putMark 7 (.iload_n 3) 1 8 := ⟨by decide +kernel, rfl⟩
theorem dX9_putMark_8 : Dj cX9_putMark 8 (fun o => .ifCond .le o) (36) 3 11 44 := ⟨by decide +kernel, rfl, by decide⟩
theorem dX9_putMark_11 : Dn cX9_putMark 11 (.aload_n 0) 1 12 := ⟨by decide +kernel, rfl⟩
theorem dX9_putMark_12 : Dn cX9_putMark 12 (.getfield 26) 3 15 := ⟨by decide +kernel, rfl⟩
theorem dX9_putMark_15 : Dn cX9_putMark 15 (.aload_n 0) 1 16 := ⟨by decide +kernel, rfl⟩
theorem dX9_putMark_16 : Dn cX9_putMark 16 (.getfield 32) 3 19 := ⟨by decide +kernel, rfl⟩
theorem dX9_putMark_19 : Dn cX9_putMark 19 (.bipush 16) 2 21 := ⟨by decide +kernel, rfl⟩
theorem dX9_putMark_21 : Dn cX9_putMark 21 (.iload_n 1) 1 22 := ⟨by decide +kernel, rfl⟩
theorem dX9_putMark_22 : Dn cX9_putMark 22 (.imul) 1 23 := ⟨by decide +kernel, rfl⟩
theorem dX9_putMark_23 : Dn cX9_putMark 23 (.iload_n 3) 1 24 := ⟨by decide +kernel, rfl⟩
theorem dX9_putMark_24 : Dn cX9_putMark 24 (.iadd) 1 25 := ⟨by decide +kernel, rfl⟩
theorem dX9_putMark_25 : Dn cX9_putMark 25 (.iconst 1) 1 26 := ⟨by decide +kernel, rfl⟩
theorem dX9_putMark_26 : Dn cX9_putMark 26 (.isub) 1 27 := ⟨by decide +kernel, rfl⟩
theorem dX9_putMark_27 : Dn cX9_putMark 27 (.iaload) 1 28 := ⟨by decide +kernel, rfl⟩
theorem dX9_putMark_28 : Dn cX9_putMark 28 (.iaload) 1 29 := ⟨by decide +kernel, rfl⟩
theorem dX9_putMark_29 : Dn cX9_putMark 29 (.aload_n 0) 1 30 := ⟨by decide +kernel, rfl⟩
theorem dX9_putMark_30 : Dn cX9_putMark 30 (.getfield 26) 3 33 := ⟨by decide +kernel, rfl⟩
theorem dX9_putMark_33 : Dn cX9_putMark 33 (.iload_n 2) 1 34 := ⟨by decide +kernel, rfl⟩
theorem dX9_putMark_34 : Dn cX9_putMark 34 (.iaload) 1 35 := ⟨by decide +kernel, rfl⟩
theorem dX9_putMark_35 : Dj cX9_putMark 35 (fun o => .if_icmp .ge o) (9) 3 38 44 := ⟨by decide +kernel, rfl, by decide⟩
theorem dX9_putMark_38 : Dn cX9_putMark 38 (.iinc 3 (-1)) 3 41 := ⟨by decide +kernel, rfl⟩
theorem dX9_putMark_41 : Dj cX9_putMark 41 .goto (-34) 3 44 7 := ⟨by decide +kernel, rfl, by decide⟩
theorem dX9_putMark_44 : Dn cX9_putMark 44 (.iload_n 3) 1 45 := ⟨by decide +kernel, rfl⟩
theorem dX9_putMark_45 : Dn cX9_putMark 45 (.bipush 16) 2 47 := ⟨by decide +kernel, rfl⟩
theorem dX9_putMark_47 : Dj cX9_putMark 47 (fun o => .if_icmp .ge o) (106) 3 50 153 := ⟨by decide +kernel, rfl, by decide⟩
theorem dX9_putMark_50 : Dn cX9_putMark 50 (.aload_n 0) 1 51 := ⟨by decide +kernel, rfl⟩
theorem dX9_putMark_51 : Dn cX9_putMark 51 (.getfield 29) 3 54 := ⟨by decide +kernel, rfl⟩
theorem dX9_putMark_54 : Dn cX9_putMark 54 (.iload_n 1) 1 55 := ⟨by decide +kernel, rfl⟩
theorem dX9_putMark_55 : Dn cX9_putMark 55 (.iaload) 1 56 := ⟨by decide +kernel, rfl⟩
theorem dX9_putMark_56 : Dn cX9_putMark 56 (.bipush 16) 2 58 := ⟨by decide +kernel, rfl⟩
theorem dX9_putMark_58 : Dj cX9_putMark 58 (fun o => .if_icmp .ge o) (12) 3 61 70 := ⟨by decide +kernel, rfl, by decide⟩
theorem dX9_putMark_61 : Dn cX9_putMark 61 (.aload_n 0) 1 62 := ⟨by decide +kernel, rfl⟩
theorem dX9_putMark_62 : Dn cX9_putMark 62 (.getfield 29) 3 65 := ⟨by decide +kernel, rfl⟩
theorem dX9_putMark_65 : Dn cX9_putMark 65 (.iload_n 1) 1 66 := ⟨by decide +kernel, rfl⟩
theorem dX9_putMark_66 : Dn cX9_putMark 66 (.iaload) 1 67 := ⟨by decide +kernel, rfl⟩
theorem dX9_putMark_67 : Dj cX9_putMark 67 .goto (5) 3 70 72 := ⟨by decide +kernel, rfl, by decide⟩
theorem dX9_putMark_70 : Dn cX9_putMark 70 (.bipush 15) 2 72 := ⟨by decide +kernel, rfl⟩
theorem dX9_putMark_72 : Dn cX9_putMark 72 (.istore 4) 2 74 := ⟨by decide +kernel, rfl⟩
theorem dX9_putMark_74 : Dn cX9_putMark 74 (.iload 4) 2 76 := ⟨by decide +kernel, rfl⟩
theorem dX9_putMark_76 : Dn cX9_putMark 76 (.istore 5) 2 78 := ⟨by decide +kernel, rfl⟩
theorem dX9_putMark_78 : Dn cX9_putMark 78 (.iload 5) 2 80 := ⟨by decide +kernel, rfl⟩
theorem dX9_putMark_80 : Dn cX9_putMark 80 (.iload_n 3) 1 81 := ⟨by decide +kernel, rfl⟩
theorem dX9_putMark_81 : Dj cX9_putMark 81 (fun o => .if_icmp .le o) (35) 3 84 116 := ⟨by decide +kernel, rfl, by decide⟩
theorem dX9_putMark_84 : Dn cX9_putMark 84 (.aload_n 0) 1 85 := ⟨by decide +kernel, rfl⟩
theorem dX9_putMark_85 : Dn cX9_putMark 85 (.getfield 32) 3 88 := ⟨by decide +kernel, rfl⟩
theorem dX9_putMark_88 : Dn cX9_putMark 88 (.bipush 16) 2 90 := ⟨by decide +kernel, rfl⟩
theorem dX9_putMark_90 : Dn cX9_putMark 90 (.iload_n 1) 1 91 := ⟨by decide +kernel, rfl⟩
theorem dX9_putMark_91 : Dn cX9_putMark 91 (.imul) 1 92 := ⟨by decide +kernel, rfl⟩
theorem dX9_putMark_92 : Dn cX9_putMark 92 (.iload 5) 2 94 := ⟨by decide +kernel, rfl⟩
theorem dX9_putMark_94 : Dn cX9_putMark 94 (.iadd) 1 95 := ⟨by decide +kernel, rfl⟩
theorem dX9_putMark_95 : Dn cX9_putMark 95 (.aload_n 0) 1 96 := ⟨by decide +kernel, rfl⟩
theorem dX9_putMark_96 : Dn cX9_putMark 96 (.getfield 32) 3 99 := ⟨by decide +kernel, rfl⟩
theorem dX9_putMark_99 : Dn cX9_putMark 99 (.bipush 16) 2 101 := ⟨by decide +kernel, rfl⟩
theorem dX9_putMark_101 : Dn cX9_putMark 101 (.iload_n 1) 1 102 := ⟨by decide +kernel, rfl⟩
theorem dX9_putMark_102 : Dn cX9_putMark 102 (.imul) 1 103 := ⟨by decide +kernel, rfl⟩
theorem dX9_putMark_103 : Dn cX9_putMark 103 (.iload 5) 2 105 := ⟨by decide +kernel, rfl⟩
theorem dX9_putMark_105 : Dn cX9_putMark 105 (.iadd) 1 106 := ⟨by decide +kernel, rfl⟩
theorem dX9_putMark_106 : Dn cX9_putMark 106 (.iconst 1) 1 107 := ⟨by decide +kernel, rfl⟩
theorem dX9_putMark_107 : Dn cX9_putMark 107 (.isub) 1 108 := ⟨by decide +kernel, rfl⟩
theorem dX9_putMark_108 : Dn cX9_putMark 108 (.iaload) 1 109 := ⟨by decide +kernel, rfl⟩
theorem dX9_putMark_109 : Dn cX9_putMark 109 (.iastore) 1 110 := ⟨by decide +kernel, rfl⟩
theorem dX9_putMark_110 : Dn cX9_putMark 110 (.iinc 5 (-1)) 3 113 := ⟨by decide +kernel, rfl⟩
theorem dX9_putMark_113 : Dj cX9_putMark 113 .goto (-35) 3 116 78 := ⟨by decide +kernel, rfl, by decide⟩
theorem dX9_putMark_116 : Dn cX9_putMark 116 (.aload_n 0) 1 117 := ⟨by decide +kernel, rfl⟩
theorem dX9_putMark_117 : Dn cX9_putMark 117 (.getfield 32) 3 120 := ⟨by decide +kernel, rfl⟩
theorem dX9_putMark_120 : Dn cX9_putMark 120 (.bipush 16) 2 122 := ⟨by decide +kernel, rfl⟩
theorem dX9_putMark_122 : Dn cX9_putMark 122 (.iload_n 1) 1 123 := ⟨by decide +kernel, rfl⟩
theorem dX9_putMark_123 : Dn cX9_putMark 123 (.imul) 1 124 := ⟨by decide +kernel, rfl⟩
theorem dX9_putMark_124 : Dn cX9_putMark 124 (.iload_n 3) 1 125 := ⟨by decide +kernel, rfl⟩
theorem dX9_putMark_125 : Dn cX9_putMark 125 (.iadd) 1 126 := ⟨by decide +kernel, rfl⟩
theorem dX9_putMark_126 : Dn cX9_putMark 126 (.iload_n 2) 1 127 := ⟨by decide +kernel, rfl⟩
theorem dX9_putMark_127 : Dn cX9_putMark 127 (.iastore) 1 128 := ⟨by decide +kernel, rfl⟩
theorem dX9_putMark_128 : Dn cX9_putMark 128 (.aload_n 0) 1 129 := ⟨by decide +kernel, rfl⟩
theorem dX9_putMark_129 : Dn cX9_putMark 129 (.getfield 29) 3 132 := ⟨by decide +kernel, rfl⟩
theorem dX9_putMark_132 : Dn cX9_putMark 132 (.iload_n 1) 1 133 := ⟨by decide +kernel, rfl⟩
theorem dX9_putMark_133 : Dn cX9_putMark 133 (.dup2) 1 134 := ⟨by decide +kernel, rfl⟩
theorem dX9_putMark_134 : Dn cX9_putMark 134 (.iaload) 1 135 := ⟨by decide +kernel, rfl⟩
theorem dX9_putMark_135 : Dn cX9_putMark 135 (.aload_n 0) 1 136 := ⟨by decide +kernel, rfl⟩
theorem dX9_putMark_136 : Dn cX9_putMark 136 (.getfield 29) 3 139 := ⟨by decide +kernel, rfl⟩
theorem dX9_putMark_139 : Dn cX9_putMark 139 (.iload_n 1) 1 140 := ⟨by decide +kernel, rfl⟩
theorem dX9_putMark_140 : Dn cX9_putMark 140 (.iaload) 1 141 := ⟨by decide +kernel, rfl⟩
theorem dX9_putMark_141 : Dn cX9_putMark 141 (.bipush 16) 2 143 := ⟨by decide +kernel, rfl⟩
theorem dX9_putMark_143 : Dj cX9_putMark 143 (fun o => .if_icmp .ge o) (7) 3 146 150 := ⟨by decide +kernel, rfl, by decide⟩
theorem dX9_putMark_146 : Dn cX9_putMark 146 (.iconst 1) 1 147 := ⟨by decide +kernel, rfl⟩
theorem dX9_putMark_147 : Dj cX9_putMark 147 .goto (4) 3 150 151 := ⟨by decide +kernel, rfl, by decide⟩
theorem dX9_putMark_150 : Dn cX9_putMark 150 (.iconst 0) 1 151 := ⟨by decide +kernel, rfl⟩
theorem dX9_putMark_151 : Dn cX9_putMark 151 (.iadd) 1 152 := ⟨by decide +kernel, rfl⟩
theorem dX9_putMark_152 : Dn cX9_putMark 152 (.iastore) 1 153 := ⟨by decide +kernel, rfl⟩
theorem dX9_putMark_153 : Dn cX9_putMark 153 (.return_) 1 154 := ⟨by decide +kernel, rfl⟩
theorem dX9_bits_0 : Dn cX9_bits 0 (.iconst 0) 1 1 := ⟨by decide +kernel, rfl⟩
theorem dX9_bits_1 : Dn cX9_bits 1 (.istore_n 1) 1 2 := ⟨by decide +kernel, rfl⟩
theorem dX9_bits_2 : Dn cX9_bits 2 (.iconst 0) 1 3 := ⟨by decide +kernel, rfl⟩
theorem dX9_bits_3 : Dn cX9_bits 3 (.istore_n 2) 1 4 := ⟨by decide +kernel, rfl⟩
theorem dX9_bits_4 : Dn cX9_bits 4 (.iload_n 2) 1 5 := ⟨by decide +kernel, rfl⟩
theorem dX9_bits_5 : Dn cX9_bits 5 (.bipush 12) 2 7 := ⟨by decide +kernel, rfl⟩
theorem dX9_bits_7 : Dj cX9_bits 7 (fun o => .if_icmp .ge o) (17) 3 10 24 := ⟨by decide +kernel, rfl, by decide⟩
theorem dX9_bits_10 : Dn cX9_bits 10 (.iload_n 1) 1 11 := ⟨by decide +kernel, rfl⟩
theorem dX9_bits_11 : Dn cX9_bits 11 (.iload_n 0) 1 12 := ⟨by decide +kernel, rfl⟩
theorem dX9_bits_12 : Dn cX9_bits 12 (.iload_n 2) 1 13 := ⟨by decide +kernel, rfl⟩
theorem dX9_bits_13 : Dn cX9_bits 13 (.ishr) 1 14 := ⟨by decide +kernel, rfl⟩
theorem dX9_bits_14 : Dn cX9_bits 14 (.iconst 1) 1 15 := ⟨by decide +kernel, rfl⟩
theorem dX9_bits_15 : Dn cX9_bits 15 (.iand) 1 16 := ⟨by decide +kernel, rfl⟩
theorem dX9_bits_16 : Dn cX9_bits 16 (.iadd) 1 17 := ⟨by decide +kernel, rfl⟩
theorem dX9_bits_17 : Dn cX9_bits 17 (.istore_n 1) 1 18 := ⟨by decide +kernel, rfl⟩
theorem dX9_bits_18 : Dn cX9_bits 18 (.iinc 2 1) 3 21 := ⟨by decide +kernel, rfl⟩
theorem dX9_bits_21 : Dj cX9_bits 21 .goto (-17) 3 24 4 := ⟨by decide +kernel, rfl, by decide⟩
theorem dX9_bits_24 : Dn cX9_bits 24 (.iload_n 1) 1 25 := ⟨by decide +kernel, rfl⟩
theorem dX9_bits_25 : Dn cX9_bits 25 (.ireturn) 1 26 := ⟨by decide +kernel, rfl⟩
theorem dX9_distance_0 : Dn cX9_distance 0 (.aload_n 0) 1 1 := ⟨by decide +kernel, rfl⟩
theorem dX9_distance_1 : Dn cX9_distance 1 (.getfield 35) 3 4 := ⟨by decide +kernel, rfl⟩
theorem dX9_distance_4 : Dn cX9_distance 4 (.bipush 16) 2 6 := ⟨by decide +kernel, rfl⟩
theorem dX9_distance_6 : Dn cX9_distance 6 (.iload_n 1) 1 7 := ⟨by decide +kernel, rfl⟩
theorem dX9_distance_7 : Dn cX9_distance 7 (.imul) 1 8 := ⟨by decide +kernel, rfl⟩
theorem dX9_distance_8 : Dn cX9_distance 8 (.iload_n 2) 1 9 := ⟨by decide +kernel, rfl⟩
theorem dX9_distance_9 : Dn cX9_distance 9 (.iadd) 1 10 := ⟨by decide +kernel, rfl⟩
theorem dX9_distance_10 : Dn cX9_distance 10 (.iaload) 1 11 := ⟨by decide +kernel, rfl⟩
theorem dX9_distance_11 : Dn cX9_distance 11 (.aload_n 0) 1 12 := ⟨by decide +kernel, rfl⟩
theorem dX9_distance_12 : Dn cX9_distance 12 (.getfield 35) 3 15 := ⟨by decide +kernel, rfl⟩
theorem dX9_distance_15 : Dn cX9_distance 15 (.bipush 16) 2 17 := ⟨by decide +kernel, rfl⟩
theorem dX9_distance_17 : Dn cX9_distance 17 (.iload_n 3) 1 18 := ⟨by decide +kernel, rfl⟩
theorem dX9_distance_18 : Dn cX9_distance 18 (.imul) 1 19 := ⟨by decide +kernel, rfl⟩
theorem dX9_distance_19 : Dn cX9_distance 19 (.iload 4) 2 21 := ⟨by decide +kernel, rfl⟩
theorem dX9_distance_21 : Dn cX9_distance 21 (.iadd) 1 22 := ⟨by decide +kernel, rfl⟩
theorem dX9_distance_22 : Dn cX9_distance 22 (.iaload) 1 23 := ⟨by decide +kernel, rfl⟩
theorem dX9_distance_23 : Dn cX9_distance 23 (.ixor) 1 24 := ⟨by decide +kernel, rfl⟩
theorem dX9_distance_24 : Dn cX9_distance 24 (.invokestatic 117) 3 27 := ⟨by decide +kernel, rfl⟩
theorem dX9_distance_27 : Dn cX9_distance 27 (.ireturn) 1 28 := ⟨by decide +kernel, rfl⟩
theorem dX9_nearest_0 : Dn cX9_nearest 0 (.bipush (-6)) 2 2 := ⟨by decide +kernel, rfl⟩
theorem dX9_nearest_2 : Dn cX9_nearest 2 (.istore 4) 2 4 := ⟨by decide +kernel, rfl⟩
theorem dX9_nearest_4 : Dn cX9_nearest 4 (.iconst 0) 1 5 := ⟨by decide +kernel, rfl⟩
theorem dX9_nearest_5 : Dn cX9_nearest 5 (.istore 5) 2 7 := ⟨by decide +kernel, rfl⟩
theorem dX9_nearest_7 : Dn cX9_nearest 7 (.iload 5) 2 9 := ⟨by decide +kernel, rfl⟩
theorem dX9_nearest_9 : Dn cX9_nearest 9 (.aload_n 0) 1 10 := ⟨by decide +kernel, rfl⟩
theorem dX9_nearest_10 : Dn cX9_nearest 10 (.getfield 29) 3 13 := ⟨by decide +kernel, rfl⟩
theorem dX9_nearest_13 : Dn cX9_nearest 13 (.iload_n 3) 1 14 := ⟨by decide +kernel, rfl⟩
theorem dX9_nearest_14 : Dn cX9_nearest 14 (.iaload) 1 15 := ⟨by decide +kernel, rfl⟩
theorem dX9_nearest_15 : Dj cX9_nearest 15 (fun o => .if_icmp .ge o) (44) 3 18 59 := ⟨by decide +kernel, rfl, by decide⟩
theorem dX9_nearest_18 : Dn cX9_nearest 18 (.iload 4) 2 20 := ⟨by decide +kernel, rfl⟩
theorem dX9_nearest_20 : Dj cX9_nearest 20 (fun o => .ifCond .lt o) (24) 3 23 44 := ⟨by decide +kernel, rfl, by decide⟩
theorem dX9_nearest_23 : Dn cX9_nearest 23 (.aload_n 0) 1 24 := ⟨by decide +kernel, rfl⟩
theorem dX9_nearest_24 : Dn cX9_nearest 24 (.iload_n 1) 1 25 := ⟨by decide +kernel, rfl⟩
theorem dX9_nearest_25 : Dn cX9_nearest 25 (.iload_n 2) 1 26 := ⟨by decide +kernel, rfl⟩
theorem dX9_nearest_26 : Dn cX9_nearest 26 (.iload_n 3) 1 27 := ⟨by decide +kernel, rfl⟩
theorem dX9_nearest_27 : Dn cX9_nearest 27 (.iload 5) 2 29 := ⟨by decide +kernel, rfl⟩
theorem dX9_nearest_29 : Dn cX9_nearest 29 (.invokevirtual 121) 3 32 := ⟨by decide +kernel, rfl⟩
theorem dX9_nearest_32 : Dn cX9_nearest 32 (.aload_n 0) 1 33 := ⟨by decide +kernel, rfl⟩
theorem dX9_nearest_33 : Dn cX9_nearest 33 (.iload_n 1) 1 34 := ⟨by decide +kernel, rfl⟩
theorem dX9_nearest_34 : Dn cX9_nearest 34 (.iload_n 2) 1 35 := ⟨by decide +kernel, rfl⟩
theorem dX9_nearest_35 : Dn cX9_nearest 35 (.iload_n 3) 1 36 := ⟨by decide +kernel, rfl⟩
theorem dX9_nearest_36 : Dn cX9_nearest 36 (.iload 4) 2 38 := ⟨by decide +kernel, rfl⟩
theorem dX9_nearest_38 : Dn cX9_nearest 38 (.invokevirtual 121) 3 41 := ⟨by decide +kernel, rfl⟩
theorem dX9_nearest_41 : Dj cX9_nearest 41 (fun o => .if_icmp .ge o) (8) 3 44 49 := ⟨by decide +kernel, rfl, by decide⟩
theorem dX9_nearest_44 : Dn cX9_nearest 44 (.iload 5) 2 46 := ⟨by decide +kernel, rfl⟩
theorem dX9_nearest_46 : Dj cX9_nearest 46 .goto (5) 3 49 51 := ⟨by decide +kernel, rfl, by decide⟩
theorem dX9_nearest_49 : Dn cX9_nearest 49 (.iload 4) 2 51 := ⟨by decide +kernel, rfl⟩
theorem dX9_nearest_51 : Dn cX9_nearest 51 (.istore 4) 2 53 := ⟨by decide +kernel, rfl⟩
theorem dX9_nearest_53 : Dn cX9_nearest 53 (.iinc 5 1) 3 56 := ⟨by decide +kernel, rfl⟩
theorem dX9_nearest_56 : Dj cX9_nearest 56 .goto (-49) 3 59 7 := ⟨by decide +kernel, rfl, by decide⟩
theorem dX9_nearest_59 : Dn cX9_nearest 59 (.iload 4) 2 61 := ⟨by decide +kernel, rfl⟩
theorem dX9_nearest_61 : Dn cX9_nearest 61 (.ireturn) 1 62 := ⟨by decide +kernel, rfl⟩
theorem dX9_markX_0 : Dn cX9_markX 0 (.aload_n 0) 1 1 := ⟨by decide +kernel, rfl⟩
theorem dX9_markX_1 : Dn cX9_markX 1 (.getfield 32) 3 4 := ⟨by decide +kernel, rfl⟩
theorem dX9_markX_4 : Dn cX9_markX 4 (.bipush 16) 2 6 := ⟨by decide +kernel, rfl⟩
theorem dX9_markX_6 : Dn cX9_markX 6 (.iload_n 1) 1 7 := ⟨by decide +kernel, rfl⟩
theorem dX9_markX_7 : Dn cX9_markX 7 (.imul) 1 8 := ⟨by decide +kernel, rfl⟩
theorem dX9_markX_8 : Dn cX9_markX 8 (.iload_n 2) 1 9 := ⟨by decide +kernel, rfl⟩
theorem dX9_markX_9 : Dn cX9_markX 9 (.iadd) 1 10 := ⟨by decide +kernel, rfl⟩
theorem dX9_markX_10 : Dn cX9_markX 10 (.iaload) 1 11 := ⟨by decide +kernel, rfl⟩
theorem dX9_markX_11 : Dn cX9_markX 11 (.sipush 400) 3 14 := ⟨by decide +kernel, rfl⟩
theorem dX9_markX_14 : Dn cX9_markX 14 (.irem) 1 15 := ⟨by decide +kernel, rfl⟩
theorem dX9_markX_15 : Dn cX9_markX 15 (.bipush 20) 2 17 := ⟨by decide +kernel, rfl⟩
theorem dX9_markX_17 : Dn cX9_markX 17 (.irem) 1 18 := ⟨by decide +kernel, rfl⟩
theorem dX9_markX_18 : Dn cX9_markX 18 (.ireturn) 1 19 := ⟨by decide +kernel, rfl⟩
theorem dX9_markY_0 : Dn cX9_markY 0 (.aload_n 0) 1 1 := ⟨by decide +kernel, rfl⟩
theorem dX9_markY_1 : Dn cX9_markY 1 (.getfield 32) 3 4 := ⟨by decide +kernel, rfl⟩
theorem dX9_markY_4 : Dn cX9_markY 4 (.bipush 16) 2 6 := ⟨by decide +kernel, rfl⟩
theorem dX9_markY_6 : Dn cX9_markY 6 (.iload_n 1) 1 7 := ⟨by decide +kernel, rfl⟩
theorem dX9_markY_7 : Dn cX9_markY 7 (.imul) 1 8 := ⟨by decide +kernel, rfl⟩
theorem dX9_markY_8 : Dn cX9_markY 8 (.iload_n 2) 1 9 := ⟨by decide +kernel, rfl⟩
theorem dX9_markY_9 : Dn cX9_markY 9 (.iadd) 1 10 := ⟨by decide +kernel, rfl⟩
theorem dX9_markY_10 : Dn cX9_markY 10 (.iaload) 1 11 := ⟨by decide +kernel, rfl⟩
theorem dX9_markY_11 : Dn cX9_markY 11 (.sipush 400) 3 14 := ⟨by decide +kernel, rfl⟩
theorem dX9_markY_14 : Dn cX9_markY 14 (.irem) 1 15 := ⟨by decide +kernel, rfl⟩
theorem dX9_markY_15 : Dn cX9_markY 15 (.bipush 20) 2 17 := ⟨by decide +kernel, rfl⟩
theorem dX9_markY_17 : Dn cX9_markY 17 (.idiv) 1 18 := ⟨by decide +kernel, rfl⟩
theorem dX9_markY_18 : Dn cX9_markY 18 (.ireturn) 1 19 := ⟨by decide +kernel, rfl⟩
theorem dX9_layPair_0 : Dn cX9_layPair 0 (.iconst 4) 1 1 := ⟨by decide +kernel, rfl⟩
theorem dX9_layPair_1 : Dn cX9_layPair 1 (.iload_n 1) 1 2 := ⟨by decide +kernel, rfl⟩
theorem dX9_layPair_2 : Dn cX9_layPair 2 (.imul) 1 3 := ⟨by decide +kernel, rfl⟩
theorem dX9_layPair_3 : Dn cX9_layPair 3 (.iload_n 2) 1 4 := ⟨by decide +kernel, rfl⟩
theorem dX9_layPair_4 : Dn cX9_layPair 4 (.iadd) 1 5 := ⟨by decide +kernel, rfl⟩
theorem dX9_layPair_5 : Dn cX9_layPair 5 (.istore_n 3) 1 6 := ⟨by decide +kernel, rfl⟩
theorem dX9_layPair_6 : Dn cX9_layPair 6 (.aload_n 0) 1 7 := ⟨by decide +kernel, rfl⟩
theorem dX9_layPair_7 : Dn cX9_layPair 7 (.getfield 50) 3 10 := ⟨by decide +kernel, rfl⟩
theorem dX9_layPair_10 : Dn cX9_layPair 10 (.iload_n 3) 1 11 := ⟨by decide +kernel, rfl⟩
theorem dX9_layPair_11 : Dn cX9_layPair 11 (.iconst 0) 1 12 := ⟨by decide +kernel, rfl⟩
theorem dX9_layPair_12 : Dn cX9_layPair 12 (.iastore) 1 13 := ⟨by decide +kernel, rfl⟩
theorem dX9_layPair_13 : Dn cX9_layPair 13 (.aload_n 0) 1 14 := ⟨by decide +kernel, rfl⟩
theorem dX9_layPair_14 : Dn cX9_layPair 14 (.getfield 47) 3 17 := ⟨by decide +kernel, rfl⟩
theorem dX9_layPair_17 : Dn cX9_layPair 17 (.iload_n 3) 1 18 := ⟨by decide +kernel, rfl⟩
theorem dX9_layPair_18 : Dn cX9_layPair 18 (.iconst 0) 1 19 := ⟨by decide +kernel, rfl⟩
theorem dX9_layPair_19 : Dn cX9_layPair 19 (.iastore) 1 20 := ⟨by decide +kernel, rfl⟩
theorem dX9_layPair_20 : Dn cX9_layPair 20 (.iconst 0) 1 21 := ⟨by decide +kernel, rfl⟩
theorem dX9_layPair_21 : Dn cX9_layPair 21 (.istore 4) 2 23 := ⟨by decide +kernel, rfl⟩
theorem dX9_layPair_23 : Dn cX9_layPair 23 (.iload 4) 2 25 := ⟨by decide +kernel, rfl⟩
theorem dX9_layPair_25 : Dn cX9_layPair 25 (.aload_n 0) 1 26 := ⟨by decide +kernel, rfl⟩
theorem dX9_layPair_26 : Dn cX9_layPair 26 (.getfield 29) 3 29 := ⟨by decide +kernel, rfl⟩
theorem dX9_layPair_29 : Dn cX9_layPair 29 (.iload_n 1) 1 30 := ⟨by decide +kernel, rfl⟩
theorem dX9_layPair_30 : Dn cX9_layPair 30 (.iaload) 1 31 := ⟨by decide +kernel, rfl⟩
theorem dX9_layPair_31 : Dj cX9_layPair 31 (fun o => .if_icmp .ge o) (104) 3 34 135 := ⟨by decide +kernel, rfl, by decide⟩
theorem dX9_layPair_34 : Dn cX9_layPair 34 (.aload_n 0) 1 35 := ⟨by decide +kernel, rfl⟩
theorem dX9_layPair_35 : Dn cX9_layPair 35 (.iload_n 1) 1 36 := ⟨by decide +kernel, rfl⟩
theorem dX9_layPair_36 : Dn cX9_layPair 36 (.iload 4) 2 38 := ⟨by decide +kernel, rfl⟩
theorem dX9_layPair_38 : Dn cX9_layPair 38 (.iload_n 2) 1 39 := ⟨by decide +kernel, rfl⟩
theorem dX9_layPair_39 : Dn cX9_layPair 39 (.invokevirtual 125) 3 42 := ⟨by decide +kernel, rfl⟩
theorem dX9_layPair_42 : Dn cX9_layPair 42 (.istore 5) 2 44 := ⟨by decide +kernel, rfl⟩
theorem dX9_layPair_44 : Dn cX9_layPair 44 (.iload 5) 2 46 := ⟨by decide +kernel, rfl⟩
theorem dX9_layPair_46 : Dj cX9_layPair 46 (fun o => .ifCond .lt o) (37) 3 49 83 := ⟨by decide +kernel, rfl, by decide⟩
theorem dX9_layPair_49 : Dn cX9_layPair 49 (.aload_n 0) 1 50 := ⟨by decide +kernel, rfl⟩
theorem dX9_layPair_50 : Dn cX9_layPair 50 (.iload_n 2) 1 51 := ⟨by decide +kernel, rfl⟩
theorem dX9_layPair_51 : Dn cX9_layPair 51 (.iload 5) 2 53 := ⟨by decide +kernel, rfl⟩
theorem dX9_layPair_53 : Dn cX9_layPair 53 (.iload_n 1) 1 54 := ⟨by decide +kernel, rfl⟩
theorem dX9_layPair_54 : Dn cX9_layPair 54 (.invokevirtual 125) 3 57 := ⟨by decide +kernel, rfl⟩
theorem dX9_layPair_57 : Dn cX9_layPair 57 (.iload 4) 2 59 := ⟨by decide +kernel, rfl⟩
theorem dX9_layPair_59 : Dj cX9_layPair 59 (fun o => .if_icmp .ne o) (24) 3 62 83 := ⟨by decide +kernel, rfl, by decide⟩
theorem dX9_layPair_62 : Dn cX9_layPair 62 (.aload_n 0) 1 63 := ⟨by decide +kernel, rfl⟩
theorem dX9_layPair_63 : Dn cX9_layPair 63 (.iload_n 1) 1 64 := ⟨by decide +kernel, rfl⟩
theorem dX9_layPair_64 : Dn cX9_layPair 64 (.iload 4) 2 66 := ⟨by decide +kernel, rfl⟩
theorem dX9_layPair_66 : Dn cX9_layPair 66 (.iload_n 2) 1 67 := ⟨by decide +kernel, rfl⟩
theorem dX9_layPair_67 : Dn cX9_layPair 67 (.iload 5) 2 69 := ⟨by decide +kernel, rfl⟩
theorem dX9_layPair_69 : Dn cX9_layPair 69 (.invokevirtual 121) 3 72 := ⟨by decide +kernel, rfl⟩
theorem dX9_layPair_72 : Dn cX9_layPair 72 (.aload_n 0) 1 73 := ⟨by decide +kernel, rfl⟩
theorem dX9_layPair_73 : Dn cX9_layPair 73 (.getfield 23) 3 76 := ⟨by decide +kernel, rfl⟩
theorem dX9_layPair_76 : Dj cX9_layPair 76 (fun o => .if_icmp .gt o) (7) 3 79 83 := ⟨by decide +kernel, rfl, by decide⟩
theorem dX9_layPair_79 : Dn cX9_layPair 79 (.iconst 1) 1 80 := ⟨by decide +kernel, rfl⟩
theorem dX9_layPair_80 : Dj cX9_layPair 80 .goto (4) 3 83 84 := ⟨by decide +kernel, rfl, by decide⟩
theorem dX9_layPair_83 : Dn cX9_layPair 83 (.iconst 0) 1 84 := ⟨by decide +kernel, rfl⟩
theorem dX9_layPair_84 : Dn cX9_layPair 84 (.istore 6) 2 86 := ⟨by decide +kernel, rfl⟩
theorem dX9_layPair_86 : Dn cX9_layPair 86 (.aload_n 0) 1 87 := ⟨by decide +kernel, rfl⟩
theorem dX9_layPair_87 : Dn cX9_layPair 87 (.getfield 38) 3 90 := ⟨by decide +kernel, rfl⟩
theorem dX9_layPair_90 : Dn cX9_layPair 90 (.bipush 16) 2 92 := ⟨by decide +kernel, rfl⟩
theorem dX9_layPair_92 : Dn cX9_layPair 92 (.iload_n 3) 1 93 := ⟨by decide +kernel, rfl⟩
theorem dX9_layPair_93 : Dn cX9_layPair 93 (.imul) 1 94 := ⟨by decide +kernel, rfl⟩
theorem dX9_layPair_94 : Dn cX9_layPair 94 (.iload 4) 2 96 := ⟨by decide +kernel, rfl⟩
theorem dX9_layPair_96 : Dn cX9_layPair 96 (.iadd) 1 97 := ⟨by decide +kernel, rfl⟩
theorem dX9_layPair_97 : Dn cX9_layPair 97 (.iload 6) 2 99 := ⟨by decide +kernel, rfl⟩
theorem dX9_layPair_99 : Dj cX9_layPair 99 (fun o => .ifCond .eq o) (8) 3 102 107 := ⟨by decide +kernel, rfl, by decide⟩
theorem dX9_layPair_102 : Dn cX9_layPair 102 (.iload 5) 2 104 := ⟨by decide +kernel, rfl⟩
theorem dX9_layPair_104 : Dj cX9_layPair 104 .goto (5) 3 107 109 := ⟨by decide +kernel, rfl, by decide⟩
theorem dX9_layPair_107 : Dn cX9_layPair 107 (.bipush (-6)) 2 109 := ⟨by decide +kernel, rfl⟩
theorem dX9_layPair_109 : Dn cX9_layPair 109 (.iastore) 1 110 := ⟨by decide +kernel, rfl⟩
theorem dX9_layPair_110 : Dn cX9_layPair 110 (.aload_n 0) 1 111 := ⟨by decide +kernel, rfl⟩
theorem dX9_layPair_111 : Dn cX9_layPair 111 (.getfield 50) 3 114 := ⟨by decide +kernel, rfl⟩
theorem dX9_layPair_114 : Dn cX9_layPair 114 (.iload_n 3) 1 115 := ⟨by decide +kernel, rfl⟩
theorem dX9_layPair_115 : Dn cX9_layPair 115 (.dup2) 1 116 := ⟨by decide +kernel, rfl⟩
theorem dX9_layPair_116 : Dn cX9_layPair 116 (.iaload) 1 117 := ⟨by decide +kernel, rfl⟩
theorem dX9_layPair_117 : Dn cX9_layPair 117 (.iload 6) 2 119 := ⟨by decide +kernel, rfl⟩
theorem dX9_layPair_119 : Dj cX9_layPair 119 (fun o => .ifCond .eq o) (7) 3 122 126 := ⟨by decide +kernel, rfl, by decide⟩
theorem dX9_layPair_122 : Dn cX9_layPair 122 (.iconst 1) 1 123 := ⟨by decide +kernel, rfl⟩
theorem dX9_layPair_123 : Dj cX9_layPair 123 .goto (4) 3 126 127 := ⟨by decide +kernel, rfl, by decide⟩
theorem dX9_layPair_126 : Dn cX9_layPair 126 (.iconst 0) 1 127 := ⟨by decide +kernel, rfl⟩
theorem dX9_layPair_127 : Dn cX9_layPair 127 (.iadd) 1 128 := ⟨by decide +kernel, rfl⟩
theorem dX9_layPair_128 : Dn cX9_layPair 128 (.iastore) 1 129 := ⟨by decide +kernel, rfl⟩
theorem dX9_layPair_129 : Dn cX9_layPair 129 (.iinc 4 1) 3 132 := ⟨by decide +kernel, rfl⟩
theorem dX9_layPair_132 : Dj cX9_layPair 132 .goto (-109) 3 135 23 := ⟨by decide +kernel, rfl, by decide⟩
theorem dX9_layPair_135 : Dn cX9_layPair 135 (.iconst 0) 1 136 := ⟨by decide +kernel, rfl⟩
theorem dX9_layPair_136 : Dn cX9_layPair 136 (.istore 4) 2 138 := ⟨by decide +kernel, rfl⟩
theorem dX9_layPair_138 : Dn cX9_layPair 138 (.iload 4) 2 140 := ⟨by decide +kernel, rfl⟩
theorem dX9_layPair_140 : Dn cX9_layPair 140 (.aload_n 0) 1 141 := ⟨by decide +kernel, rfl⟩
theorem dX9_layPair_141 : Dn cX9_layPair 141 (.getfield 29) 3 144 := ⟨by decide +kernel, rfl⟩
theorem dX9_layPair_144 : Dn cX9_layPair 144 (.iload_n 1) 1 145 := ⟨by decide +kernel, rfl⟩
theorem dX9_layPair_145 : Dn cX9_layPair 145 (.iaload) 1 146 := ⟨by decide +kernel, rfl⟩
theorem dX9_layPair_146 : Dj cX9_layPair 146 (fun o => .if_icmp .ge o) (187) 3 149 333 := ⟨by decide +kernel, rfl, by decide⟩
theorem dX9_layPair_149 : Dn cX9_layPair 149 (.aload_n 0) 1 150 := ⟨by decide +kernel, rfl⟩
theorem dX9_layPair_150 : Dn cX9_layPair 150 (.getfield 38) 3 153 := ⟨by decide +kernel, rfl⟩
theorem dX9_layPair_153 : Dn cX9_layPair 153 (.bipush 16) 2 155 := ⟨by decide +kernel, rfl⟩
theorem dX9_layPair_155 : Dn cX9_layPair 155 (.iload_n 3) 1 156 := ⟨by decide +kernel, rfl⟩
theorem dX9_layPair_156 : Dn cX9_layPair 156 (.imul) 1 157 := ⟨by decide +kernel, rfl⟩
theorem dX9_layPair_157 : Dn cX9_layPair 157 (.iload 4) 2 159 := ⟨by decide +kernel, rfl⟩
theorem dX9_layPair_159 : Dn cX9_layPair 159 (.iadd) 1 160 := ⟨by decide +kernel, rfl⟩
theorem dX9_layPair_160 : Dn cX9_layPair 160 (.iaload) 1 161 := ⟨by decide +kernel, rfl⟩
theorem dX9_layPair_161 : Dj cX9_layPair 161 (fun o => .ifCond .lt o) (166) 3 164 327 := ⟨by decide +kernel, rfl, by decide⟩
theorem dX9_layPair_164 : Dn cX9_layPair 164 (.aload_n 0) 1 165 := ⟨by decide +kernel, rfl⟩
theorem dX9_layPair_165 : Dn cX9_layPair 165 (.iload_n 1) 1 166 := ⟨by decide +kernel, rfl⟩
theorem dX9_layPair_166 : Dn cX9_layPair 166 (.iload 4) 2 168 := ⟨by decide +kernel, rfl⟩
theorem dX9_layPair_168 : Dn cX9_layPair 168 (.invokevirtual 128) 3 171 := ⟨by decide +kernel, rfl⟩
theorem dX9_layPair_171 : Dn cX9_layPair 171 (.aload_n 0) 1 172 := ⟨by decide +kernel, rfl⟩
theorem dX9_layPair_172 : Dn cX9_layPair 172 (.iload_n 2) 1 173 := ⟨by decide +kernel, rfl⟩
theorem dX9_layPair_173 : Dn cX9_layPair 173 (.aload_n 0) 1 174 := ⟨by decide +kernel, rfl⟩
theorem dX9_layPair_174 : Dn cX9_layPair 174 (.getfield 38) 3 177 := ⟨by decide +kernel, rfl⟩
theorem dX9_layPair_177 : Dn cX9_layPair 177 (.bipush 16) 2 179 := ⟨by decide +kernel, rfl⟩
theorem dX9_layPair_179 : Dn cX9_layPair 179 (.iload_n 3) 1 180 := ⟨by decide +kernel, rfl⟩
theorem dX9_layPair_180 : Dn cX9_layPair 180 (.imul) 1 181 := ⟨by decide +kernel, rfl⟩
theorem dX9_layPair_181 : Dn cX9_layPair 181 (.iload 4) 2 183 := ⟨by decide +kernel, rfl⟩
theorem dX9_layPair_183 : Dn cX9_layPair 183 (.iadd) 1 184 := ⟨by decide +kernel, rfl⟩
theorem dX9_layPair_184 : Dn cX9_layPair 184 (.iaload) 1 185 := ⟨by decide +kernel, rfl⟩
theorem dX9_layPair_185 : Dn cX9_layPair 185 (.invokevirtual 128) 3 188 := ⟨by decide +kernel, rfl⟩
theorem dX9_layPair_188 : Dn cX9_layPair 188 (.isub) 1 189 := ⟨by decide +kernel, rfl⟩
theorem dX9_layPair_189 : Dn cX9_layPair 189 (.istore 5) 2 191 := ⟨by decide +kernel, rfl⟩
theorem dX9_layPair_191 : Dn cX9_layPair 191 (.aload_n 0) 1 192 := ⟨by decide +kernel, rfl⟩
theorem dX9_layPair_192 : Dn cX9_layPair 192 (.iload_n 1) 1 193 := ⟨by decide +kernel, rfl⟩
theorem dX9_layPair_193 : Dn cX9_layPair 193 (.iload 4) 2 195 := ⟨by decide +kernel, rfl⟩
theorem dX9_layPair_195 : Dn cX9_layPair 195 (.invokevirtual 131) 3 198 := ⟨by decide +kernel, rfl⟩
theorem dX9_layPair_198 : Dn cX9_layPair 198 (.aload_n 0) 1 199 := ⟨by decide +kernel, rfl⟩
theorem dX9_layPair_199 : Dn cX9_layPair 199 (.iload_n 2) 1 200 := ⟨by decide +kernel, rfl⟩
theorem dX9_layPair_200 : Dn cX9_layPair 200 (.aload_n 0) 1 201 := ⟨by decide +kernel, rfl⟩
theorem dX9_layPair_201 : Dn cX9_layPair 201 (.getfield 38) 3 204 := ⟨by decide +kernel, rfl⟩
theorem dX9_layPair_204 : Dn cX9_layPair 204 (.bipush 16) 2 206 := ⟨by decide +kernel, rfl⟩
theorem dX9_layPair_206 : Dn cX9_layPair 206 (.iload_n 3) 1 207 := ⟨by decide +kernel, rfl⟩
theorem dX9_layPair_207 : Dn cX9_layPair 207 (.imul) 1 208 := ⟨by decide +kernel, rfl⟩
theorem dX9_layPair_208 : Dn cX9_layPair 208 (.iload 4) 2 210 := ⟨by decide +kernel, rfl⟩
theorem dX9_layPair_210 : Dn cX9_layPair 210 (.iadd) 1 211 := ⟨by decide +kernel, rfl⟩
theorem dX9_layPair_211 : Dn cX9_layPair 211 (.iaload) 1 212 := ⟨by decide +kernel, rfl⟩
theorem dX9_layPair_212 : Dn cX9_layPair 212 (.invokevirtual 131) 3 215 := ⟨by decide +kernel, rfl⟩
theorem dX9_layPair_215 : Dn cX9_layPair 215 (.isub) 1 216 := ⟨by decide +kernel, rfl⟩
theorem dX9_layPair_216 : Dn cX9_layPair 216 (.istore 6) 2 218 := ⟨by decide +kernel, rfl⟩
theorem dX9_layPair_218 : Dn cX9_layPair 218 (.aload_n 0) 1 219 := ⟨by decide +kernel, rfl⟩
theorem dX9_layPair_219 : Dn cX9_layPair 219 (.iload_n 1) 1 220 := ⟨by decide +kernel, rfl⟩
theorem dX9_layPair_220 : Dn cX9_layPair 220 (.iload_n 2) 1 221 := ⟨by decide +kernel, rfl⟩
theorem dX9_layPair_221 : Dn cX9_layPair 221 (.iload 5) 2 223 := ⟨by decide +kernel, rfl⟩
theorem dX9_layPair_223 : Dn cX9_layPair 223 (.iload 6) 2 225 := ⟨by decide +kernel, rfl⟩
theorem dX9_layPair_225 : Dn cX9_layPair 225 (.invokevirtual 134) 3 228 := ⟨by decide +kernel, rfl⟩
theorem dX9_layPair_228 : Dn cX9_layPair 228 (.istore 7) 2 230 := ⟨by decide +kernel, rfl⟩
theorem dX9_layPair_230 : Dn cX9_layPair 230 (.iload 7) 2 232 := ⟨by decide +kernel, rfl⟩
theorem dX9_layPair_232 : Dn cX9_layPair 232 (.aload_n 0) 1 233 := ⟨by decide +kernel, rfl⟩
theorem dX9_layPair_233 : Dn cX9_layPair 233 (.getfield 47) 3 236 := ⟨by decide +kernel, rfl⟩
theorem dX9_layPair_236 : Dn cX9_layPair 236 (.iload_n 3) 1 237 := ⟨by decide +kernel, rfl⟩
theorem dX9_layPair_237 : Dn cX9_layPair 237 (.iaload) 1 238 := ⟨by decide +kernel, rfl⟩
theorem dX9_layPair_238 : Dj cX9_layPair 238 (fun o => .if_icmp .ne o) (40) 3 241 278 := ⟨by decide +kernel, rfl, by decide⟩
theorem dX9_layPair_241 : Dn cX9_layPair 241 (.iload 5) 2 243 := ⟨by decide +kernel, rfl⟩
theorem dX9_layPair_243 : Dn cX9_layPair 243 (.aload_n 0) 1 244 := ⟨by decide +kernel, rfl⟩
theorem dX9_layPair_244 : Dn cX9_layPair 244 (.getfield 41) 3 247 := ⟨by decide +kernel, rfl⟩
theorem dX9_layPair_247 : Dn cX9_layPair 247 (.iload_n 3) 1 248 := ⟨by decide +kernel, rfl⟩
theorem dX9_layPair_248 : Dn cX9_layPair 248 (.iaload) 1 249 := ⟨by decide +kernel, rfl⟩
theorem dX9_layPair_249 : Dj cX9_layPair 249 (fun o => .if_icmp .lt o) (25) 3 252 274 := ⟨by decide +kernel, rfl, by decide⟩
theorem dX9_layPair_252 : Dn cX9_layPair 252 (.iload 5) 2 254 := ⟨by decide +kernel, rfl⟩
theorem dX9_layPair_254 : Dn cX9_layPair 254 (.aload_n 0) 1 255 := ⟨by decide +kernel, rfl⟩
theorem dX9_layPair_255 : Dn cX9_layPair 255 (.getfield 41) 3 258 := ⟨by decide +kernel, rfl⟩
theorem dX9_layPair_258 : Dn cX9_layPair 258 (.iload_n 3) 1 259 := ⟨by decide +kernel, rfl⟩
theorem dX9_layPair_259 : Dn cX9_layPair 259 (.iaload) 1 260 := ⟨by decide +kernel, rfl⟩
theorem dX9_layPair_260 : Dj cX9_layPair 260 (fun o => .if_icmp .ne o) (18) 3 263 278 := ⟨by decide +kernel, rfl, by decide⟩
theorem dX9_layPair_263 : Dn cX9_layPair 263 (.iload 6) 2 265 := ⟨by decide +kernel, rfl⟩
theorem dX9_layPair_265 : Dn cX9_layPair 265 (.aload_n 0) 1 266 := ⟨by decide +kernel, rfl⟩
theorem dX9_layPair_266 : Dn cX9_layPair 266 (.getfield 44) 3 269 := ⟨by decide +kernel, rfl⟩
theorem dX9_layPair_269 : Dn cX9_layPair 269 (.iload_n 3) 1 270 := ⟨by decide +kernel, rfl⟩
theorem dX9_layPair_270 : Dn cX9_layPair 270 (.iaload) 1 271 := ⟨by decide +kernel, rfl⟩
theorem dX9_layPair_271 : Dj cX9_layPair 271 (fun o => .if_icmp .ge o) (7) 3 274 278 := ⟨by decide +kernel, rfl, by decide⟩
theorem dX9_layPair_274 : Dn cX9_layPair 274 (.iconst 1) 1 275 := ⟨by decide +kernel, rfl⟩
theorem dX9_layPair_275 : Dj cX9_layPair 275 .goto (4) 3 278 279 := ⟨by decide +kernel, rfl, by decide⟩
theorem dX9_layPair_278 : Dn cX9_layPair 278 (.iconst 0) 1 279 := ⟨by decide +kernel, rfl⟩
theorem dX9_layPair_279 : Dn cX9_layPair 279 (.istore 8) 2 281 := ⟨by decide +kernel, rfl⟩
theorem dX9_layPair_281 : Dn cX9_layPair 281 (.iload 7) 2 283 := ⟨by decide +kernel, rfl⟩
theorem dX9_layPair_283 : Dn cX9_layPair 283 (.iconst 2) 1 284 := ⟨by decide +kernel, rfl⟩
theorem dX9_layPair_284 : Dj cX9_layPair 284 (fun o => .if_icmp .lt o) (43) 3 287 327 := ⟨by decide +kernel, rfl, by decide⟩
theorem dX9_layPair_287 : Dn cX9_layPair 287 (.iload 7) 2 289 := ⟨by decide +kernel, rfl⟩
theorem dX9_layPair_289 : Dn cX9_layPair 289 (.aload_n 0) 1 290 := ⟨by decide +kernel, rfl⟩
theorem dX9_layPair_290 : Dn cX9_layPair 290 (.getfield 47) 3 293 := ⟨by decide +kernel, rfl⟩
theorem dX9_layPair_293 : Dn cX9_layPair 293 (.iload_n 3) 1 294 := ⟨by decide +kernel, rfl⟩
theorem dX9_layPair_294 : Dn cX9_layPair 294 (.iaload) 1 295 := ⟨by decide +kernel, rfl⟩
theorem dX9_layPair_295 : Dj cX9_layPair 295 (fun o => .if_icmp .gt o) (8) 3 298 303 := ⟨by decide +kernel, rfl, by decide⟩
theorem dX9_layPair_298 : Dn cX9_layPair 298 (.iload 8) 2 300 := ⟨by decide +kernel, rfl⟩
theorem dX9_layPair_300 : Dj cX9_layPair 300 (fun o => .ifCond .eq o) (27) 3 303 327 := ⟨by decide +kernel, rfl, by decide⟩
theorem dX9_layPair_303 : Dn cX9_layPair 303 (.aload_n 0) 1 304 := ⟨by decide +kernel, rfl⟩
theorem dX9_layPair_304 : Dn cX9_layPair 304 (.getfield 47) 3 307 := ⟨by decide +kernel, rfl⟩
theorem dX9_layPair_307 : Dn cX9_layPair 307 (.iload_n 3) 1 308 := ⟨by decide +kernel, rfl⟩
theorem dX9_layPair_308 : Dn cX9_layPair 308 (.iload 7) 2 310 := ⟨by decide +kernel, rfl⟩
theorem dX9_layPair_310 : Dn cX9_layPair 310 (.iastore) 1 311 := ⟨by decide +kernel, rfl⟩
theorem dX9_layPair_311 : Dn cX9_layPair 311 (.aload_n 0) 1 312 := ⟨by decide +kernel, rfl⟩
theorem dX9_layPair_312 : Dn cX9_layPair 312 (.getfield 41) 3 315 := ⟨by decide +kernel, rfl⟩
theorem dX9_layPair_315 : Dn cX9_layPair 315 (.iload_n 3) 1 316 := ⟨by decide +kernel, rfl⟩
theorem dX9_layPair_316 : Dn cX9_layPair 316 (.iload 5) 2 318 := ⟨by decide +kernel, rfl⟩
theorem dX9_layPair_318 : Dn cX9_layPair 318 (.iastore) 1 319 := ⟨by decide +kernel, rfl⟩
theorem dX9_layPair_319 : Dn cX9_layPair 319 (.aload_n 0) 1 320 := ⟨by decide +kernel, rfl⟩
theorem dX9_layPair_320 : Dn cX9_layPair 320 (.getfield 44) 3 323 := ⟨by decide +kernel, rfl⟩
theorem dX9_layPair_323 : Dn cX9_layPair 323 (.iload_n 3) 1 324 := ⟨by decide +kernel, rfl⟩
theorem dX9_layPair_324 : Dn cX9_layPair 324 (.iload 6) 2 326 := ⟨by decide +kernel, rfl⟩
theorem dX9_layPair_326 : Dn cX9_layPair 326 (.iastore) 1 327 := ⟨by decide +kernel, rfl⟩
theorem dX9_layPair_327 : Dn cX9_layPair 327 (.iinc 4 1) 3 330 := ⟨by decide +kernel, rfl⟩
theorem dX9_layPair_330 : Dj cX9_layPair 330 .goto (-192) 3 333 138 := ⟨by decide +kernel, rfl, by decide⟩
theorem dX9_layPair_333 : Dn cX9_layPair 333 (.return_) 1 334 := ⟨by decide +kernel, rfl⟩
theorem dX9_votesFor_0 : Dn cX9_votesFor 0 (.iconst 4) 1 1 := ⟨by decide +kernel, rfl⟩
theorem dX9_votesFor_1 : Dn cX9_votesFor 1 (.iload_n 1) 1 2 := ⟨by decide +kernel, rfl⟩
theorem dX9_votesFor_2 : Dn cX9_votesFor 2 (.imul) 1 3 := ⟨by decide +kernel, rfl⟩
theorem dX9_votesFor_3 : Dn cX9_votesFor 3 (.iload_n 2) 1 4 := ⟨by decide +kernel, rfl⟩
theorem dX9_votesFor_4 : Dn cX9_votesFor 4 (.iadd) 1 5 := ⟨by decide +kernel, rfl⟩
theorem dX9_votesFor_5 : Dn cX9_votesFor 5 (.istore 5) 2 7 := ⟨by decide +kernel, rfl⟩
theorem dX9_votesFor_7 : Dn cX9_votesFor 7 (.iconst 0) 1 8 := ⟨by decide +kernel, rfl⟩
theorem dX9_votesFor_8 : Dn cX9_votesFor 8 (.istore 6) 2 10 := ⟨by decide +kernel, rfl⟩
theorem dX9_votesFor_10 : Dn cX9_votesFor 10 (.iconst 0) 1 11 := ⟨by decide +kernel, rfl⟩
theorem dX9_votesFor_11 : Dn cX9_votesFor 11 (.istore 7) 2 13 := ⟨by decide +kernel, rfl⟩
theorem dX9_votesFor_13 : Dn cX9_votesFor 13 (.iload 7) 2 15 := ⟨by decide +kernel, rfl⟩
theorem dX9_votesFor_15 : Dn cX9_votesFor 15 (.aload_n 0) 1 16 := ⟨by decide +kernel, rfl⟩
theorem dX9_votesFor_16 : Dn cX9_votesFor 16 (.getfield 29) 3 19 := ⟨by decide +kernel, rfl⟩
theorem dX9_votesFor_19 : Dn cX9_votesFor 19 (.iload_n 1) 1 20 := ⟨by decide +kernel, rfl⟩
theorem dX9_votesFor_20 : Dn cX9_votesFor 20 (.iaload) 1 21 := ⟨by decide +kernel, rfl⟩
theorem dX9_votesFor_21 : Dj cX9_votesFor 21 (fun o => .if_icmp .ge o) (78) 3 24 99 := ⟨by decide +kernel, rfl, by decide⟩
theorem dX9_votesFor_24 : Dn cX9_votesFor 24 (.aload_n 0) 1 25 := ⟨by decide +kernel, rfl⟩
theorem dX9_votesFor_25 : Dn cX9_votesFor 25 (.getfield 38) 3 28 := ⟨by decide +kernel, rfl⟩
theorem dX9_votesFor_28 : Dn cX9_votesFor 28 (.bipush 16) 2 30 := ⟨by decide +kernel, rfl⟩
theorem dX9_votesFor_30 : Dn cX9_votesFor 30 (.iload 5) 2 32 := ⟨by decide +kernel, rfl⟩
theorem dX9_votesFor_32 : Dn cX9_votesFor 32 (.imul) 1 33 := ⟨by decide +kernel, rfl⟩
theorem dX9_votesFor_33 : Dn cX9_votesFor 33 (.iload 7) 2 35 := ⟨by decide +kernel, rfl⟩
theorem dX9_votesFor_35 : Dn cX9_votesFor 35 (.iadd) 1 36 := ⟨by decide +kernel, rfl⟩
theorem dX9_votesFor_36 : Dn cX9_votesFor 36 (.iaload) 1 37 := ⟨by decide +kernel, rfl⟩
theorem dX9_votesFor_37 : Dn cX9_votesFor 37 (.istore 8) 2 39 := ⟨by decide +kernel, rfl⟩
theorem dX9_votesFor_39 : Dn cX9_votesFor 39 (.iload 6) 2 41 := ⟨by decide +kernel, rfl⟩
theorem dX9_votesFor_41 : Dn cX9_votesFor 41 (.iload 8) 2 43 := ⟨by decide +kernel, rfl⟩
theorem dX9_votesFor_43 : Dj cX9_votesFor 43 (fun o => .ifCond .lt o) (46) 3 46 89 := ⟨by decide +kernel, rfl, by decide⟩
theorem dX9_votesFor_46 : Dn cX9_votesFor 46 (.aload_n 0) 1 47 := ⟨by decide +kernel, rfl⟩
theorem dX9_votesFor_47 : Dn cX9_votesFor 47 (.iload_n 1) 1 48 := ⟨by decide +kernel, rfl⟩
theorem dX9_votesFor_48 : Dn cX9_votesFor 48 (.iload 7) 2 50 := ⟨by decide +kernel, rfl⟩
theorem dX9_votesFor_50 : Dn cX9_votesFor 50 (.invokevirtual 128) 3 53 := ⟨by decide +kernel, rfl⟩
theorem dX9_votesFor_53 : Dn cX9_votesFor 53 (.aload_n 0) 1 54 := ⟨by decide +kernel, rfl⟩
theorem dX9_votesFor_54 : Dn cX9_votesFor 54 (.iload_n 2) 1 55 := ⟨by decide +kernel, rfl⟩
theorem dX9_votesFor_55 : Dn cX9_votesFor 55 (.iload 8) 2 57 := ⟨by decide +kernel, rfl⟩
theorem dX9_votesFor_57 : Dn cX9_votesFor 57 (.invokevirtual 128) 3 60 := ⟨by decide +kernel, rfl⟩
theorem dX9_votesFor_60 : Dn cX9_votesFor 60 (.isub) 1 61 := ⟨by decide +kernel, rfl⟩
theorem dX9_votesFor_61 : Dn cX9_votesFor 61 (.iload_n 3) 1 62 := ⟨by decide +kernel, rfl⟩
theorem dX9_votesFor_62 : Dj cX9_votesFor 62 (fun o => .if_icmp .ne o) (27) 3 65 89 := ⟨by decide +kernel, rfl, by decide⟩
theorem dX9_votesFor_65 : Dn cX9_votesFor 65 (.aload_n 0) 1 66 := ⟨by decide +kernel, rfl⟩
theorem dX9_votesFor_66 : Dn cX9_votesFor 66 (.iload_n 1) 1 67 := ⟨by decide +kernel, rfl⟩
theorem dX9_votesFor_67 : Dn cX9_votesFor 67 (.iload 7) 2 69 := ⟨by decide +kernel, rfl⟩
theorem dX9_votesFor_69 : Dn cX9_votesFor 69 (.invokevirtual 131) 3 72 := ⟨by decide +kernel, rfl⟩
theorem dX9_votesFor_72 : Dn cX9_votesFor 72 (.aload_n 0) 1 73 := ⟨by decide +kernel, rfl⟩
theorem dX9_votesFor_73 : Dn cX9_votesFor 73 (.iload_n 2) 1 74 := ⟨by decide +kernel, rfl⟩
theorem dX9_votesFor_74 : Dn cX9_votesFor 74 (.iload 8) 2 76 := ⟨by decide +kernel, rfl⟩
theorem dX9_votesFor_76 : Dn cX9_votesFor 76 (.invokevirtual 131) 3 79 := ⟨by decide +kernel, rfl⟩
theorem dX9_votesFor_79 : Dn cX9_votesFor 79 (.isub) 1 80 := ⟨by decide +kernel, rfl⟩
theorem dX9_votesFor_80 : Dn cX9_votesFor 80 (.iload 4) 2 82 := ⟨by decide +kernel, rfl⟩
theorem dX9_votesFor_82 : Dj cX9_votesFor 82 (fun o => .if_icmp .ne o) (7) 3 85 89 := ⟨by decide +kernel, rfl, by decide⟩
theorem dX9_votesFor_85 : Dn cX9_votesFor 85 (.iconst 1) 1 86 := ⟨by decide +kernel, rfl⟩
theorem dX9_votesFor_86 : Dj cX9_votesFor 86 .goto (4) 3 89 90 := ⟨by decide +kernel, rfl, by decide⟩
theorem dX9_votesFor_89 : Dn cX9_votesFor 89 (.iconst 0) 1 90 := ⟨by decide +kernel, rfl⟩
theorem dX9_votesFor_90 : Dn cX9_votesFor 90 (.iadd) 1 91 := ⟨by decide +kernel, rfl⟩
theorem dX9_votesFor_91 : Dn cX9_votesFor 91 (.istore 6) 2 93 := ⟨by decide +kernel, rfl⟩
theorem dX9_votesFor_93 : Dn cX9_votesFor 93 (.iinc 7 1) 3 96 := ⟨by decide +kernel, rfl⟩
theorem dX9_votesFor_96 : Dj cX9_votesFor 96 .goto (-83) 3 99 13 := ⟨by decide +kernel, rfl, by decide⟩
theorem dX9_votesFor_99 : Dn cX9_votesFor 99 (.iload 6) 2 101 := ⟨by decide +kernel, rfl⟩
theorem dX9_votesFor_101 : Dn cX9_votesFor 101 (.ireturn) 1 102 := ⟨by decide +kernel, rfl⟩
theorem dX9_layPlaces_0 : Dn cX9_layPlaces 0 (.aload_n 0) 1 1 := ⟨by decide +kernel, rfl⟩
theorem dX9_layPlaces_1 : Dn cX9_layPlaces 1 (.iconst 0) 1 2 := ⟨by decide +kernel, rfl⟩
theorem dX9_layPlaces_2 : Dn cX9_layPlaces 2 (.putfield 137) 3 5 := ⟨by decide +kernel, rfl⟩
theorem dX9_layPlaces_5 : Dn cX9_layPlaces 5 (.iconst 0) 1 6 := ⟨by decide +kernel, rfl⟩
theorem dX9_layPlaces_6 : Dn cX9_layPlaces 6 (.istore_n 1) 1 7 := ⟨by decide +kernel, rfl⟩
theorem dX9_layPlaces_7 : Dn cX9_layPlaces 7 (.iload_n 1) 1 8 := ⟨by decide +kernel, rfl⟩
theorem dX9_layPlaces_8 : Dn cX9_layPlaces 8 (.aload_n 0) 1 9 := ⟨by decide +kernel, rfl⟩
theorem dX9_layPlaces_9 : Dn cX9_layPlaces 9 (.getfield 68) 3 12 := ⟨by decide +kernel, rfl⟩
theorem dX9_layPlaces_12 : Dj cX9_layPlaces 12 (fun o => .if_icmp .ge o) (25) 3 15 37 := ⟨by decide +kernel, rfl, by decide⟩
theorem dX9_layPlaces_15 : Dn cX9_layPlaces 15 (.aload_n 0) 1 16 := ⟨by decide +kernel, rfl⟩
theorem dX9_layPlaces_16 : Dn cX9_layPlaces 16 (.getfield 62) 3 19 := ⟨by decide +kernel, rfl⟩
theorem dX9_layPlaces_19 : Dn cX9_layPlaces 19 (.iload_n 1) 1 20 := ⟨by decide +kernel, rfl⟩
theorem dX9_layPlaces_20 : Dn cX9_layPlaces 20 (.bipush (-6)) 2 22 := ⟨by decide +kernel, rfl⟩
theorem dX9_layPlaces_22 : Dn cX9_layPlaces 22 (.iastore) 1 23 := ⟨by decide +kernel, rfl⟩
theorem dX9_layPlaces_23 : Dn cX9_layPlaces 23 (.aload_n 0) 1 24 := ⟨by decide +kernel, rfl⟩
theorem dX9_layPlaces_24 : Dn cX9_layPlaces 24 (.getfield 59) 3 27 := ⟨by decide +kernel, rfl⟩
theorem dX9_layPlaces_27 : Dn cX9_layPlaces 27 (.iload_n 1) 1 28 := ⟨by decide +kernel, rfl⟩
theorem dX9_layPlaces_28 : Dn cX9_layPlaces 28 (.bipush (-6)) 2 30 := ⟨by decide +kernel, rfl⟩
theorem dX9_layPlaces_30 : Dn cX9_layPlaces 30 (.iastore) 1 31 := ⟨by decide +kernel, rfl⟩
theorem dX9_layPlaces_31 : Dn cX9_layPlaces 31 (.iinc 1 1) 3 34 := ⟨by decide +kernel, rfl⟩
theorem dX9_layPlaces_34 : Dj cX9_layPlaces 34 .goto (-27) 3 37 7 := ⟨by decide +kernel, rfl, by decide⟩
theorem dX9_layPlaces_37 : Dn cX9_layPlaces 37 (.aload_n 0) 1 38 := ⟨by decide +kernel, rfl⟩
theorem dX9_layPlaces_38 : Dn cX9_layPlaces 38 (.getfield 68) 3 41 := ⟨by decide +kernel, rfl⟩
theorem dX9_layPlaces_41 : Dj cX9_layPlaces 41 (fun o => .ifCond .le o) (29) 3 44 70 := ⟨by decide +kernel, rfl, by decide⟩
theorem dX9_layPlaces_44 : Dn cX9_layPlaces 44 (.aload_n 0) 1 45 := ⟨by decide +kernel, rfl⟩
theorem dX9_layPlaces_45 : Dn cX9_layPlaces 45 (.getfield 53) 3 48 := ⟨by decide +kernel, rfl⟩
theorem dX9_layPlaces_48 : Dn cX9_layPlaces 48 (.iconst 0) 1 49 := ⟨by decide +kernel, rfl⟩
theorem dX9_layPlaces_49 : Dn cX9_layPlaces 49 (.iconst 0) 1 50 := ⟨by decide +kernel, rfl⟩
theorem dX9_layPlaces_50 : Dn cX9_layPlaces 50 (.iastore) 1 51 := ⟨by decide +kernel, rfl⟩
theorem dX9_layPlaces_51 : Dn cX9_layPlaces 51 (.aload_n 0) 1 52 := ⟨by decide +kernel, rfl⟩
theorem dX9_layPlaces_52 : Dn cX9_layPlaces 52 (.getfield 56) 3 55 := ⟨by decide +kernel, rfl⟩
theorem dX9_layPlaces_55 : Dn cX9_layPlaces 55 (.iconst 0) 1 56 := ⟨by decide +kernel, rfl⟩
theorem dX9_layPlaces_56 : Dn cX9_layPlaces 56 (.iconst 0) 1 57 := ⟨by decide +kernel, rfl⟩
theorem dX9_layPlaces_57 : Dn cX9_layPlaces 57 (.iastore) 1 58 := ⟨by decide +kernel, rfl⟩
theorem dX9_layPlaces_58 : Dn cX9_layPlaces 58 (.aload_n 0) 1 59 := ⟨by decide +kernel, rfl⟩
theorem dX9_layPlaces_59 : Dn cX9_layPlaces 59 (.getfield 62) 3 62 := ⟨by decide +kernel, rfl⟩
theorem dX9_layPlaces_62 : Dn cX9_layPlaces 62 (.iconst 0) 1 63 := ⟨by decide +kernel, rfl⟩
theorem dX9_layPlaces_63 : Dn cX9_layPlaces 63 (.iconst 0) 1 64 := ⟨by decide +kernel, rfl⟩
theorem dX9_layPlaces_64 : Dn cX9_layPlaces 64 (.iastore) 1 65 := ⟨by decide +kernel, rfl⟩
theorem dX9_layPlaces_65 : Dn cX9_layPlaces 65 (.aload_n 0) 1 66 := ⟨by decide +kernel, rfl⟩
theorem dX9_layPlaces_66 : Dn cX9_layPlaces 66 (.iconst 1) 1 67 := ⟨by decide +kernel, rfl⟩
theorem dX9_layPlaces_67 : Dn cX9_layPlaces 67 (.putfield 137) 3 70 := ⟨by decide +kernel, rfl⟩
theorem dX9_layPlaces_70 : Dn cX9_layPlaces 70 (.iconst 1) 1 71 := ⟨by decide +kernel, rfl⟩
theorem dX9_layPlaces_71 : Dn cX9_layPlaces 71 (.istore_n 1) 1 72 := ⟨by decide +kernel, rfl⟩
theorem dX9_layPlaces_72 : Dn cX9_layPlaces 72 (.iload_n 1) 1 73 := ⟨by decide +kernel, rfl⟩
theorem dX9_layPlaces_73 : Dj cX9_layPlaces 73 (fun o => .ifCond .eq o) (217) 3 76 290 := ⟨by decide +kernel, rfl, by decide⟩
theorem dX9_layPlaces_76 : Dn cX9_layPlaces 76 (.bipush (-6)) 2 78 := ⟨by decide +kernel, rfl⟩
theorem dX9_layPlaces_78 : Dn cX9_layPlaces 78 (.istore_n 2) 1 79 := ⟨by decide +kernel, rfl⟩
theorem dX9_layPlaces_79 : Dn cX9_layPlaces 79 (.iconst 0) 1 80 := ⟨by decide +kernel, rfl⟩
theorem dX9_layPlaces_80 : Dn cX9_layPlaces 80 (.istore_n 3) 1 81 := ⟨by decide +kernel, rfl⟩
theorem dX9_layPlaces_81 : Dn cX9_layPlaces 81 (.iload_n 3) 1 82 := ⟨by decide +kernel, rfl⟩
theorem dX9_layPlaces_82 : Dn cX9_layPlaces 82 (.aload_n 0) 1 83 := ⟨by decide +kernel, rfl⟩
theorem dX9_layPlaces_83 : Dn cX9_layPlaces 83 (.getfield 68) 3 86 := ⟨by decide +kernel, rfl⟩
theorem dX9_layPlaces_86 : Dj cX9_layPlaces 86 (fun o => .if_icmp .ge o) (109) 3 89 195 := ⟨by decide +kernel, rfl, by decide⟩
theorem dX9_layPlaces_89 : Dn cX9_layPlaces 89 (.iconst 0) 1 90 := ⟨by decide +kernel, rfl⟩
theorem dX9_layPlaces_90 : Dn cX9_layPlaces 90 (.istore 4) 2 92 := ⟨by decide +kernel, rfl⟩
theorem dX9_layPlaces_92 : Dn cX9_layPlaces 92 (.iload 4) 2 94 := ⟨by decide +kernel, rfl⟩
theorem dX9_layPlaces_94 : Dn cX9_layPlaces 94 (.aload_n 0) 1 95 := ⟨by decide +kernel, rfl⟩
theorem dX9_layPlaces_95 : Dn cX9_layPlaces 95 (.getfield 68) 3 98 := ⟨by decide +kernel, rfl⟩
theorem dX9_layPlaces_98 : Dj cX9_layPlaces 98 (fun o => .if_icmp .ge o) (91) 3 101 189 := ⟨by decide +kernel, rfl, by decide⟩
theorem dX9_layPlaces_101 : Dn cX9_layPlaces 101 (.iconst 4) 1 102 := ⟨by decide +kernel, rfl⟩
theorem dX9_layPlaces_102 : Dn cX9_layPlaces 102 (.iload_n 3) 1 103 := ⟨by decide +kernel, rfl⟩
theorem dX9_layPlaces_103 : Dn cX9_layPlaces 103 (.imul) 1 104 := ⟨by decide +kernel, rfl⟩
theorem dX9_layPlaces_104 : Dn cX9_layPlaces 104 (.iload 4) 2 106 := ⟨by decide +kernel, rfl⟩
theorem dX9_layPlaces_106 : Dn cX9_layPlaces 106 (.iadd) 1 107 := ⟨by decide +kernel, rfl⟩
theorem dX9_layPlaces_107 : Dn cX9_layPlaces 107 (.istore 5) 2 109 := ⟨by decide +kernel, rfl⟩
theorem dX9_layPlaces_109 : Dn cX9_layPlaces 109 (.iload_n 3) 1 110 := ⟨by decide +kernel, rfl⟩
theorem dX9_layPlaces_110 : Dn cX9_layPlaces 110 (.iload 4) 2 112 := ⟨by decide +kernel, rfl⟩
theorem dX9_layPlaces_112 : Dj cX9_layPlaces 112 (fun o => .if_icmp .eq o) (36) 3 115 148 := ⟨by decide +kernel, rfl, by decide⟩
theorem dX9_layPlaces_115 : Dn cX9_layPlaces 115 (.aload_n 0) 1 116 := ⟨by decide +kernel, rfl⟩
theorem dX9_layPlaces_116 : Dn cX9_layPlaces 116 (.getfield 62) 3 119 := ⟨by decide +kernel, rfl⟩
theorem dX9_layPlaces_119 : Dn cX9_layPlaces 119 (.iload_n 3) 1 120 := ⟨by decide +kernel, rfl⟩
theorem dX9_layPlaces_120 : Dn cX9_layPlaces 120 (.iaload) 1 121 := ⟨by decide +kernel, rfl⟩
theorem dX9_layPlaces_121 : Dj cX9_layPlaces 121 (fun o => .ifCond .lt o) (27) 3 124 148 := ⟨by decide +kernel, rfl, by decide⟩
theorem dX9_layPlaces_124 : Dn cX9_layPlaces 124 (.aload_n 0) 1 125 := ⟨by decide +kernel, rfl⟩
theorem dX9_layPlaces_125 : Dn cX9_layPlaces 125 (.getfield 62) 3 128 := ⟨by decide +kernel, rfl⟩
end
section
theorem dX9_layPlaces_128 : Dn cX9_layPlaces 128 (.iload 4) 2 130 := ⟨by decide +kernel, rfl⟩
theorem dX9_layPlaces_130 : Dn cX9_layPlaces 130 (.iaload) 1 131 := ⟨by decide +kernel, rfl⟩
theorem dX9_layPlaces_131 : Dj cX9_layPlaces 131 (fun o => .ifCond .ge o) (17) 3 134 148 := ⟨by decide +kernel, rfl, by decide⟩
theorem dX9_layPlaces_134 : Dn cX9_layPlaces 134 (.aload_n 0) 1 135 := ⟨by decide +kernel, rfl⟩
theorem dX9_layPlaces_135 : Dn cX9_layPlaces 135 (.getfield 47) 3 138 := ⟨by decide +kernel, rfl⟩
theorem dX9_layPlaces_138 : Dn cX9_layPlaces 138 (.iload 5) 2 140 := ⟨by decide +kernel, rfl⟩
theorem dX9_layPlaces_140 : Dn cX9_layPlaces 140 (.iaload) 1 141 := ⟨by decide +kernel, rfl⟩
theorem dX9_layPlaces_141 : Dj cX9_layPlaces 141 (fun o => .ifCond .le o) (7) 3 144 148 := ⟨by decide +kernel, rfl, by decide⟩
theorem dX9_layPlaces_144 : Dn cX9_layPlaces 144 (.iconst 1) 1 145 := ⟨by decide +kernel, rfl⟩
theorem dX9_layPlaces_145 : Dj cX9_layPlaces 145 .goto (4) 3 148 149 := ⟨by decide +kernel, rfl, by decide⟩
theorem dX9_layPlaces_148 : Dn cX9_layPlaces 148 (.iconst 0) 1 149 := ⟨by decide +kernel, rfl⟩
theorem dX9_layPlaces_149 : Dn cX9_layPlaces 149 (.istore 6) 2 151 := ⟨by decide +kernel, rfl⟩
theorem dX9_layPlaces_151 : Dn cX9_layPlaces 151 (.iload 6) 2 153 := ⟨by decide +kernel, rfl⟩
theorem dX9_layPlaces_153 : Dj cX9_layPlaces 153 (fun o => .ifCond .eq o) (28) 3 156 181 := ⟨by decide +kernel, rfl, by decide⟩
theorem dX9_layPlaces_156 : Dn cX9_layPlaces 156 (.iload_n 2) 1 157 := ⟨by decide +kernel, rfl⟩
theorem dX9_layPlaces_157 : Dj cX9_layPlaces 157 (fun o => .ifCond .lt o) (19) 3 160 176 := ⟨by decide +kernel, rfl, by decide⟩
theorem dX9_layPlaces_160 : Dn cX9_layPlaces 160 (.aload_n 0) 1 161 := ⟨by decide +kernel, rfl⟩
theorem dX9_layPlaces_161 : Dn cX9_layPlaces 161 (.getfield 47) 3 164 := ⟨by decide +kernel, rfl⟩
theorem dX9_layPlaces_164 : Dn cX9_layPlaces 164 (.iload 5) 2 166 := ⟨by decide +kernel, rfl⟩
theorem dX9_layPlaces_166 : Dn cX9_layPlaces 166 (.iaload) 1 167 := ⟨by decide +kernel, rfl⟩
theorem dX9_layPlaces_167 : Dn cX9_layPlaces 167 (.aload_n 0) 1 168 := ⟨by decide +kernel, rfl⟩
theorem dX9_layPlaces_168 : Dn cX9_layPlaces 168 (.getfield 47) 3 171 := ⟨by decide +kernel, rfl⟩
theorem dX9_layPlaces_171 : Dn cX9_layPlaces 171 (.iload_n 2) 1 172 := ⟨by decide +kernel, rfl⟩
theorem dX9_layPlaces_172 : Dn cX9_layPlaces 172 (.iaload) 1 173 := ⟨by decide +kernel, rfl⟩
theorem dX9_layPlaces_173 : Dj cX9_layPlaces 173 (fun o => .if_icmp .le o) (8) 3 176 181 := ⟨by decide +kernel, rfl, by decide⟩
theorem dX9_layPlaces_176 : Dn cX9_layPlaces 176 (.iload 5) 2 178 := ⟨by decide +kernel, rfl⟩
theorem dX9_layPlaces_178 : Dj cX9_layPlaces 178 .goto (4) 3 181 182 := ⟨by decide +kernel, rfl, by decide⟩
theorem dX9_layPlaces_181 : Dn cX9_layPlaces 181 (.iload_n 2) 1 182 := ⟨by decide +kernel, rfl⟩
theorem dX9_layPlaces_182 : Dn cX9_layPlaces 182 (.istore_n 2) 1 183 := ⟨by decide +kernel, rfl⟩
theorem dX9_layPlaces_183 : Dn cX9_layPlaces 183 (.iinc 4 1) 3 186 := ⟨by decide +kernel, rfl⟩
theorem dX9_layPlaces_186 : Dj cX9_layPlaces 186 .goto (-94) 3 189 92 := ⟨by decide +kernel, rfl, by decide⟩
theorem dX9_layPlaces_189 : Dn cX9_layPlaces 189 (.iinc 3 1) 3 192 := ⟨by decide +kernel, rfl⟩
theorem dX9_layPlaces_192 : Dj cX9_layPlaces 192 .goto (-111) 3 195 81 := ⟨by decide +kernel, rfl, by decide⟩
theorem dX9_layPlaces_195 : Dn cX9_layPlaces 195 (.iload_n 2) 1 196 := ⟨by decide +kernel, rfl⟩
theorem dX9_layPlaces_196 : Dj cX9_layPlaces 196 (fun o => .ifCond .lt o) (7) 3 199 203 := ⟨by decide +kernel, rfl, by decide⟩
theorem dX9_layPlaces_199 : Dn cX9_layPlaces 199 (.iconst 1) 1 200 := ⟨by decide +kernel, rfl⟩
theorem dX9_layPlaces_200 : Dj cX9_layPlaces 200 .goto (4) 3 203 204 := ⟨by decide +kernel, rfl, by decide⟩
theorem dX9_layPlaces_203 : Dn cX9_layPlaces 203 (.iconst 0) 1 204 := ⟨by decide +kernel, rfl⟩
theorem dX9_layPlaces_204 : Dn cX9_layPlaces 204 (.istore_n 1) 1 205 := ⟨by decide +kernel, rfl⟩
theorem dX9_layPlaces_205 : Dn cX9_layPlaces 205 (.iload_n 1) 1 206 := ⟨by decide +kernel, rfl⟩
theorem dX9_layPlaces_206 : Dj cX9_layPlaces 206 (fun o => .ifCond .eq o) (81) 3 209 287 := ⟨by decide +kernel, rfl, by decide⟩
theorem dX9_layPlaces_209 : Dn cX9_layPlaces 209 (.iload_n 2) 1 210 := ⟨by decide +kernel, rfl⟩
theorem dX9_layPlaces_210 : Dn cX9_layPlaces 210 (.iconst 4) 1 211 := ⟨by decide +kernel, rfl⟩
theorem dX9_layPlaces_211 : Dn cX9_layPlaces 211 (.idiv) 1 212 := ⟨by decide +kernel, rfl⟩
theorem dX9_layPlaces_212 : Dn cX9_layPlaces 212 (.istore_n 3) 1 213 := ⟨by decide +kernel, rfl⟩
theorem dX9_layPlaces_213 : Dn cX9_layPlaces 213 (.iload_n 2) 1 214 := ⟨by decide +kernel, rfl⟩
theorem dX9_layPlaces_214 : Dn cX9_layPlaces 214 (.iconst 4) 1 215 := ⟨by decide +kernel, rfl⟩
theorem dX9_layPlaces_215 : Dn cX9_layPlaces 215 (.irem) 1 216 := ⟨by decide +kernel, rfl⟩
theorem dX9_layPlaces_216 : Dn cX9_layPlaces 216 (.istore 4) 2 218 := ⟨by decide +kernel, rfl⟩
theorem dX9_layPlaces_218 : Dn cX9_layPlaces 218 (.aload_n 0) 1 219 := ⟨by decide +kernel, rfl⟩
theorem dX9_layPlaces_219 : Dn cX9_layPlaces 219 (.getfield 53) 3 222 := ⟨by decide +kernel, rfl⟩
theorem dX9_layPlaces_222 : Dn cX9_layPlaces 222 (.iload 4) 2 224 := ⟨by decide +kernel, rfl⟩
theorem dX9_layPlaces_224 : Dn cX9_layPlaces 224 (.aload_n 0) 1 225 := ⟨by decide +kernel, rfl⟩
theorem dX9_layPlaces_225 : Dn cX9_layPlaces 225 (.getfield 53) 3 228 := ⟨by decide +kernel, rfl⟩
theorem dX9_layPlaces_228 : Dn cX9_layPlaces 228 (.iload_n 3) 1 229 := ⟨by decide +kernel, rfl⟩
theorem dX9_layPlaces_229 : Dn cX9_layPlaces 229 (.iaload) 1 230 := ⟨by decide +kernel, rfl⟩
theorem dX9_layPlaces_230 : Dn cX9_layPlaces 230 (.aload_n 0) 1 231 := ⟨by decide +kernel, rfl⟩
theorem dX9_layPlaces_231 : Dn cX9_layPlaces 231 (.getfield 41) 3 234 := ⟨by decide +kernel, rfl⟩
theorem dX9_layPlaces_234 : Dn cX9_layPlaces 234 (.iload_n 2) 1 235 := ⟨by decide +kernel, rfl⟩
theorem dX9_layPlaces_235 : Dn cX9_layPlaces 235 (.iaload) 1 236 := ⟨by decide +kernel, rfl⟩
theorem dX9_layPlaces_236 : Dn cX9_layPlaces 236 (.iadd) 1 237 := ⟨by decide +kernel, rfl⟩
theorem dX9_layPlaces_237 : Dn cX9_layPlaces 237 (.iastore) 1 238 := ⟨by decide +kernel, rfl⟩
theorem dX9_layPlaces_238 : Dn cX9_layPlaces 238 (.aload_n 0) 1 239 := ⟨by decide +kernel, rfl⟩
theorem dX9_layPlaces_239 : Dn cX9_layPlaces 239 (.getfield 56) 3 242 := ⟨by decide +kernel, rfl⟩
theorem dX9_layPlaces_242 : Dn cX9_layPlaces 242 (.iload 4) 2 244 := ⟨by decide +kernel, rfl⟩
theorem dX9_layPlaces_244 : Dn cX9_layPlaces 244 (.aload_n 0) 1 245 := ⟨by decide +kernel, rfl⟩
theorem dX9_layPlaces_245 : Dn cX9_layPlaces 245 (.getfield 56) 3 248 := ⟨by decide +kernel, rfl⟩
theorem dX9_layPlaces_248 : Dn cX9_layPlaces 248 (.iload_n 3) 1 249 := ⟨by decide +kernel, rfl⟩
theorem dX9_layPlaces_249 : Dn cX9_layPlaces 249 (.iaload) 1 250 := ⟨by decide +kernel, rfl⟩
theorem dX9_layPlaces_250 : Dn cX9_layPlaces 250 (.aload_n 0) 1 251 := ⟨by decide +kernel, rfl⟩
theorem dX9_layPlaces_251 : Dn cX9_layPlaces 251 (.getfield 44) 3 254 := ⟨by decide +kernel, rfl⟩
theorem dX9_layPlaces_254 : Dn cX9_layPlaces 254 (.iload_n 2) 1 255 := ⟨by decide +kernel, rfl⟩
theorem dX9_layPlaces_255 : Dn cX9_layPlaces 255 (.iaload) 1 256 := ⟨by decide +kernel, rfl⟩
theorem dX9_layPlaces_256 : Dn cX9_layPlaces 256 (.iadd) 1 257 := ⟨by decide +kernel, rfl⟩
theorem dX9_layPlaces_257 : Dn cX9_layPlaces 257 (.iastore) 1 258 := ⟨by decide +kernel, rfl⟩
theorem dX9_layPlaces_258 : Dn cX9_layPlaces 258 (.aload_n 0) 1 259 := ⟨by decide +kernel, rfl⟩
theorem dX9_layPlaces_259 : Dn cX9_layPlaces 259 (.getfield 59) 3 262 := ⟨by decide +kernel, rfl⟩
theorem dX9_layPlaces_262 : Dn cX9_layPlaces 262 (.iload 4) 2 264 := ⟨by decide +kernel, rfl⟩
theorem dX9_layPlaces_264 : Dn cX9_layPlaces 264 (.iload_n 3) 1 265 := ⟨by decide +kernel, rfl⟩
theorem dX9_layPlaces_265 : Dn cX9_layPlaces 265 (.iastore) 1 266 := ⟨by decide +kernel, rfl⟩
theorem dX9_layPlaces_266 : Dn cX9_layPlaces 266 (.aload_n 0) 1 267 := ⟨by decide +kernel, rfl⟩
theorem dX9_layPlaces_267 : Dn cX9_layPlaces 267 (.getfield 62) 3 270 := ⟨by decide +kernel, rfl⟩
theorem dX9_layPlaces_270 : Dn cX9_layPlaces 270 (.iload 4) 2 272 := ⟨by decide +kernel, rfl⟩
theorem dX9_layPlaces_272 : Dn cX9_layPlaces 272 (.aload_n 0) 1 273 := ⟨by decide +kernel, rfl⟩
theorem dX9_layPlaces_273 : Dn cX9_layPlaces 273 (.getfield 137) 3 276 := ⟨by decide +kernel, rfl⟩
theorem dX9_layPlaces_276 : Dn cX9_layPlaces 276 (.iastore) 1 277 := ⟨by decide +kernel, rfl⟩
theorem dX9_layPlaces_277 : Dn cX9_layPlaces 277 (.aload_n 0) 1 278 := ⟨by decide +kernel, rfl⟩
theorem dX9_layPlaces_278 : Dn cX9_layPlaces 278 (.dup) 1 279 := ⟨by decide +kernel, rfl⟩
theorem dX9_layPlaces_279 : Dn cX9_layPlaces 279 (.getfield 137) 3 282 := ⟨by decide +kernel, rfl⟩
theorem dX9_layPlaces_282 : Dn cX9_layPlaces 282 (.iconst 1) 1 283 := ⟨by decide +kernel, rfl⟩
theorem dX9_layPlaces_283 : Dn cX9_layPlaces 283 (.iadd) 1 284 := ⟨by decide +kernel, rfl⟩
theorem dX9_layPlaces_284 : Dn cX9_layPlaces 284 (.putfield 137) 3 287 := ⟨by decide +kernel, rfl⟩
theorem dX9_layPlaces_287 : Dj cX9_layPlaces 287 .goto (-215) 3 290 72 := ⟨by decide +kernel, rfl, by decide⟩
theorem dX9_layPlaces_290 : Dn cX9_layPlaces 290 (.return_) 1 291 := ⟨by decide +kernel, rfl⟩
theorem dX9_lay_0 : Dn cX9_lay 0 (.aload_n 0) 1 1 := ⟨by decide +kernel, rfl⟩
theorem dX9_lay_1 : Dn cX9_lay 1 (.getfield 86) 3 4 := ⟨by decide +kernel, rfl⟩
theorem dX9_lay_4 : Dj cX9_lay 4 (fun o => .ifCond .eq o) (4) 3 7 8 := ⟨by decide +kernel, rfl, by decide⟩
theorem dX9_lay_7 : Dn cX9_lay 7 (.return_) 1 8 := ⟨by decide +kernel, rfl⟩
theorem dX9_lay_8 : Dn cX9_lay 8 (.aload_n 0) 1 9 := ⟨by decide +kernel, rfl⟩
theorem dX9_lay_9 : Dn cX9_lay 9 (.iconst 1) 1 10 := ⟨by decide +kernel, rfl⟩
theorem dX9_lay_10 : Dn cX9_lay 10 (.putfield 86) 3 13 := ⟨by decide +kernel, rfl⟩
theorem dX9_lay_13 : Dn cX9_lay 13 (.iconst 0) 1 14 := ⟨by decide +kernel, rfl⟩
theorem dX9_lay_14 : Dn cX9_lay 14 (.istore_n 1) 1 15 := ⟨by decide +kernel, rfl⟩
theorem dX9_lay_15 : Dn cX9_lay 15 (.iload_n 1) 1 16 := ⟨by decide +kernel, rfl⟩
theorem dX9_lay_16 : Dn cX9_lay 16 (.aload_n 0) 1 17 := ⟨by decide +kernel, rfl⟩
theorem dX9_lay_17 : Dn cX9_lay 17 (.getfield 68) 3 20 := ⟨by decide +kernel, rfl⟩
theorem dX9_lay_20 : Dj cX9_lay 20 (fun o => .if_icmp .ge o) (14) 3 23 34 := ⟨by decide +kernel, rfl, by decide⟩
theorem dX9_lay_23 : Dn cX9_lay 23 (.aload_n 0) 1 24 := ⟨by decide +kernel, rfl⟩
theorem dX9_lay_24 : Dn cX9_lay 24 (.iload_n 1) 1 25 := ⟨by decide +kernel, rfl⟩
theorem dX9_lay_25 : Dn cX9_lay 25 (.invokevirtual 140) 3 28 := ⟨by decide +kernel, rfl⟩
theorem dX9_lay_28 : Dn cX9_lay 28 (.iinc 1 1) 3 31 := ⟨by decide +kernel, rfl⟩
theorem dX9_lay_31 : Dj cX9_lay 31 .goto (-16) 3 34 15 := ⟨by decide +kernel, rfl, by decide⟩
theorem dX9_lay_34 : Dn cX9_lay 34 (.iconst 0) 1 35 := ⟨by decide +kernel, rfl⟩
theorem dX9_lay_35 : Dn cX9_lay 35 (.istore_n 1) 1 36 := ⟨by decide +kernel, rfl⟩
theorem dX9_lay_36 : Dn cX9_lay 36 (.iload_n 1) 1 37 := ⟨by decide +kernel, rfl⟩
theorem dX9_lay_37 : Dn cX9_lay 37 (.bipush 16) 2 39 := ⟨by decide +kernel, rfl⟩
theorem dX9_lay_39 : Dj cX9_lay 39 (fun o => .if_icmp .ge o) (48) 3 42 87 := ⟨by decide +kernel, rfl, by decide⟩
theorem dX9_lay_42 : Dn cX9_lay 42 (.iload_n 1) 1 43 := ⟨by decide +kernel, rfl⟩
theorem dX9_lay_43 : Dn cX9_lay 43 (.iconst 4) 1 44 := ⟨by decide +kernel, rfl⟩
theorem dX9_lay_44 : Dn cX9_lay 44 (.idiv) 1 45 := ⟨by decide +kernel, rfl⟩
theorem dX9_lay_45 : Dn cX9_lay 45 (.iload_n 1) 1 46 := ⟨by decide +kernel, rfl⟩
theorem dX9_lay_46 : Dn cX9_lay 46 (.iconst 4) 1 47 := ⟨by decide +kernel, rfl⟩
theorem dX9_lay_47 : Dn cX9_lay 47 (.irem) 1 48 := ⟨by decide +kernel, rfl⟩
theorem dX9_lay_48 : Dj cX9_lay 48 (fun o => .if_icmp .eq o) (33) 3 51 81 := ⟨by decide +kernel, rfl, by decide⟩
theorem dX9_lay_51 : Dn cX9_lay 51 (.aload_n 0) 1 52 := ⟨by decide +kernel, rfl⟩
theorem dX9_lay_52 : Dn cX9_lay 52 (.iload_n 1) 1 53 := ⟨by decide +kernel, rfl⟩
theorem dX9_lay_53 : Dn cX9_lay 53 (.iconst 4) 1 54 := ⟨by decide +kernel, rfl⟩
theorem dX9_lay_54 : Dn cX9_lay 54 (.idiv) 1 55 := ⟨by decide +kernel, rfl⟩
theorem dX9_lay_55 : Dn cX9_lay 55 (.invokevirtual 90) 3 58 := ⟨by decide +kernel, rfl⟩
theorem dX9_lay_58 : Dj cX9_lay 58 (fun o => .ifCond .eq o) (23) 3 61 81 := ⟨by decide +kernel, rfl, by decide⟩
theorem dX9_lay_61 : Dn cX9_lay 61 (.aload_n 0) 1 62 := ⟨by decide +kernel, rfl⟩
theorem dX9_lay_62 : Dn cX9_lay 62 (.iload_n 1) 1 63 := ⟨by decide +kernel, rfl⟩
theorem dX9_lay_63 : Dn cX9_lay 63 (.iconst 4) 1 64 := ⟨by decide +kernel, rfl⟩
theorem dX9_lay_64 : Dn cX9_lay 64 (.irem) 1 65 := ⟨by decide +kernel, rfl⟩
theorem dX9_lay_65 : Dn cX9_lay 65 (.invokevirtual 90) 3 68 := ⟨by decide +kernel, rfl⟩
theorem dX9_lay_68 : Dj cX9_lay 68 (fun o => .ifCond .eq o) (13) 3 71 81 := ⟨by decide +kernel, rfl, by decide⟩
theorem dX9_lay_71 : Dn cX9_lay 71 (.aload_n 0) 1 72 := ⟨by decide +kernel, rfl⟩
theorem dX9_lay_72 : Dn cX9_lay 72 (.iload_n 1) 1 73 := ⟨by decide +kernel, rfl⟩
theorem dX9_lay_73 : Dn cX9_lay 73 (.iconst 4) 1 74 := ⟨by decide +kernel, rfl⟩
theorem dX9_lay_74 : Dn cX9_lay 74 (.idiv) 1 75 := ⟨by decide +kernel, rfl⟩
theorem dX9_lay_75 : Dn cX9_lay 75 (.iload_n 1) 1 76 := ⟨by decide +kernel, rfl⟩
theorem dX9_lay_76 : Dn cX9_lay 76 (.iconst 4) 1 77 := ⟨by decide +kernel, rfl⟩
theorem dX9_lay_77 : Dn cX9_lay 77 (.irem) 1 78 := ⟨by decide +kernel, rfl⟩
theorem dX9_lay_78 : Dn cX9_lay 78 (.invokevirtual 144) 3 81 := ⟨by decide +kernel, rfl⟩
theorem dX9_lay_81 : Dn cX9_lay 81 (.iinc 1 1) 3 84 := ⟨by decide +kernel, rfl⟩
theorem dX9_lay_84 : Dj cX9_lay 84 .goto (-48) 3 87 36 := ⟨by decide +kernel, rfl, by decide⟩
theorem dX9_lay_87 : Dn cX9_lay 87 (.aload_n 0) 1 88 := ⟨by decide +kernel, rfl⟩
theorem dX9_lay_88 : Dn cX9_lay 88 (.invokevirtual 147) 3 91 := ⟨by decide +kernel, rfl⟩
theorem dX9_lay_91 : Dn cX9_lay 91 (.return_) 1 92 := ⟨by decide +kernel, rfl⟩
theorem dX9_score_0 : Dn cX9_score 0 (.aload_n 0) 1 1 := ⟨by decide +kernel, rfl⟩
theorem dX9_score_1 : Dn cX9_score 1 (.iload_n 1) 1 2 := ⟨by decide +kernel, rfl⟩
theorem dX9_score_2 : Dn cX9_score 2 (.iload_n 2) 1 3 := ⟨by decide +kernel, rfl⟩
theorem dX9_score_3 : Dn cX9_score 3 (.iload_n 3) 1 4 := ⟨by decide +kernel, rfl⟩
theorem dX9_score_4 : Dn cX9_score 4 (.invokevirtual 94) 3 7 := ⟨by decide +kernel, rfl⟩
theorem dX9_score_7 : Dj cX9_score 7 (fun o => .ifCond .eq o) (13) 3 10 20 := ⟨by decide +kernel, rfl, by decide⟩
theorem dX9_score_10 : Dn cX9_score 10 (.aload_n 0) 1 11 := ⟨by decide +kernel, rfl⟩
theorem dX9_score_11 : Dn cX9_score 11 (.iload_n 1) 1 12 := ⟨by decide +kernel, rfl⟩
theorem dX9_score_12 : Dn cX9_score 12 (.iload_n 2) 1 13 := ⟨by decide +kernel, rfl⟩
theorem dX9_score_13 : Dn cX9_score 13 (.iload_n 3) 1 14 := ⟨by decide +kernel, rfl⟩
theorem dX9_score_14 : Dn cX9_score 14 (.invokevirtual 104) 3 17 := ⟨by decide +kernel, rfl⟩
theorem dX9_score_17 : Dj cX9_score 17 .goto (4) 3 20 21 := ⟨by decide +kernel, rfl, by decide⟩
theorem dX9_score_20 : Dn cX9_score 20 (.iconst (-1)) 1 21 := ⟨by decide +kernel, rfl⟩
theorem dX9_score_21 : Dn cX9_score 21 (.ireturn) 1 22 := ⟨by decide +kernel, rfl⟩
theorem dX9_marks_0 : Dn cX9_marks 0 (.aload_n 0) 1 1 := ⟨by decide +kernel, rfl⟩
theorem dX9_marks_1 : Dn cX9_marks 1 (.iload_n 1) 1 2 := ⟨by decide +kernel, rfl⟩
theorem dX9_marks_2 : Dn cX9_marks 2 (.invokevirtual 90) 3 5 := ⟨by decide +kernel, rfl⟩
theorem dX9_marks_5 : Dj cX9_marks 5 (fun o => .ifCond .ne o) (5) 3 8 10 := ⟨by decide +kernel, rfl, by decide⟩
theorem dX9_marks_8 : Dn cX9_marks 8 (.iconst (-1)) 1 9 := ⟨by decide +kernel, rfl⟩
theorem dX9_marks_9 : Dn cX9_marks 9 (.ireturn) 1 10 := ⟨by decide +kernel, rfl⟩
theorem dX9_marks_10 : Dn cX9_marks 10 (.aload_n 0) 1 11 := ⟨by decide +kernel, rfl⟩
theorem dX9_marks_11 : Dn cX9_marks 11 (.invokevirtual 150) 3 14 := ⟨by decide +kernel, rfl⟩
theorem dX9_marks_14 : Dn cX9_marks 14 (.aload_n 0) 1 15 := ⟨by decide +kernel, rfl⟩
theorem dX9_marks_15 : Dn cX9_marks 15 (.getfield 29) 3 18 := ⟨by decide +kernel, rfl⟩
theorem dX9_marks_18 : Dn cX9_marks 18 (.iload_n 1) 1 19 := ⟨by decide +kernel, rfl⟩
theorem dX9_marks_19 : Dn cX9_marks 19 (.iaload) 1 20 := ⟨by decide +kernel, rfl⟩
theorem dX9_marks_20 : Dn cX9_marks 20 (.ireturn) 1 21 := ⟨by decide +kernel, rfl⟩
theorem dX9_hasMark_0 : Dn cX9_hasMark 0 (.aload_n 0) 1 1 := ⟨by decide +kernel, rfl⟩
theorem dX9_hasMark_1 : Dn cX9_hasMark 1 (.invokevirtual 150) 3 4 := ⟨by decide +kernel, rfl⟩
theorem dX9_hasMark_4 : Dn cX9_hasMark 4 (.aload_n 0) 1 5 := ⟨by decide +kernel, rfl⟩
theorem dX9_hasMark_5 : Dn cX9_hasMark 5 (.iload_n 1) 1 6 := ⟨by decide +kernel, rfl⟩
theorem dX9_hasMark_6 : Dn cX9_hasMark 6 (.invokevirtual 90) 3 9 := ⟨by decide +kernel, rfl⟩
theorem dX9_hasMark_9 : Dj cX9_hasMark 9 (fun o => .ifCond .eq o) (23) 3 12 32 := ⟨by decide +kernel, rfl, by decide⟩
theorem dX9_hasMark_12 : Dn cX9_hasMark 12 (.iload_n 2) 1 13 := ⟨by decide +kernel, rfl⟩
theorem dX9_hasMark_13 : Dn cX9_hasMark 13 (.iconst 0) 1 14 := ⟨by decide +kernel, rfl⟩
theorem dX9_hasMark_14 : Dn cX9_hasMark 14 (.aload_n 0) 1 15 := ⟨by decide +kernel, rfl⟩
theorem dX9_hasMark_15 : Dn cX9_hasMark 15 (.getfield 29) 3 18 := ⟨by decide +kernel, rfl⟩
theorem dX9_hasMark_18 : Dn cX9_hasMark 18 (.iload_n 1) 1 19 := ⟨by decide +kernel, rfl⟩
theorem dX9_hasMark_19 : Dn cX9_hasMark 19 (.iaload) 1 20 := ⟨by decide +kernel, rfl⟩
theorem dX9_hasMark_20 : Dn cX9_hasMark 20 (.iconst 1) 1 21 := ⟨by decide +kernel, rfl⟩
theorem dX9_hasMark_21 : Dn cX9_hasMark 21 (.isub) 1 22 := ⟨by decide +kernel, rfl⟩
theorem dX9_hasMark_22 : Dn cX9_hasMark 22 (.invokestatic 71) 3 25 := ⟨by decide +kernel, rfl⟩
theorem dX9_hasMark_25 : Dj cX9_hasMark 25 (fun o => .ifCond .eq o) (7) 3 28 32 := ⟨by decide +kernel, rfl, by decide⟩
theorem dX9_hasMark_28 : Dn cX9_hasMark 28 (.iconst 1) 1 29 := ⟨by decide +kernel, rfl⟩
theorem dX9_hasMark_29 : Dj cX9_hasMark 29 .goto (4) 3 32 33 := ⟨by decide +kernel, rfl, by decide⟩
theorem dX9_hasMark_32 : Dn cX9_hasMark 32 (.iconst 0) 1 33 := ⟨by decide +kernel, rfl⟩
theorem dX9_hasMark_33 : Dn cX9_hasMark 33 (.ireturn) 1 34 := ⟨by decide +kernel, rfl⟩
theorem dX9_mark_0 : Dn cX9_mark 0 (.aload_n 0) 1 1 := ⟨by decide +kernel, rfl⟩
theorem dX9_mark_1 : Dn cX9_mark 1 (.iload_n 1) 1 2 := ⟨by decide +kernel, rfl⟩
theorem dX9_mark_2 : Dn cX9_mark 2 (.iload_n 2) 1 3 := ⟨by decide +kernel, rfl⟩
theorem dX9_mark_3 : Dn cX9_mark 3 (.invokevirtual 153) 3 6 := ⟨by decide +kernel, rfl⟩
theorem dX9_mark_6 : Dj cX9_mark 6 (fun o => .ifCond .ne o) (5) 3 9 11 := ⟨by decide +kernel, rfl, by decide⟩
theorem dX9_mark_9 : Dn cX9_mark 9 (.iconst (-1)) 1 10 := ⟨by decide +kernel, rfl⟩
theorem dX9_mark_10 : Dn cX9_mark 10 (.ireturn) 1 11 := ⟨by decide +kernel, rfl⟩
theorem dX9_mark_11 : Dn cX9_mark 11 (.iload_n 3) 1 12 := ⟨by decide +kernel, rfl⟩
theorem dX9_mark_12 : Dj cX9_mark 12 (fun o => .ifCond .ne o) (12) 3 15 24 := ⟨by decide +kernel, rfl, by decide⟩
theorem dX9_mark_15 : Dn cX9_mark 15 (.aload_n 0) 1 16 := ⟨by decide +kernel, rfl⟩
theorem dX9_mark_16 : Dn cX9_mark 16 (.iload_n 1) 1 17 := ⟨by decide +kernel, rfl⟩
theorem dX9_mark_17 : Dn cX9_mark 17 (.iload_n 2) 1 18 := ⟨by decide +kernel, rfl⟩
theorem dX9_mark_18 : Dn cX9_mark 18 (.invokevirtual 128) 3 21 := ⟨by decide +kernel, rfl⟩
theorem dX9_mark_21 : Dj cX9_mark 21 .goto (62) 3 24 83 := ⟨by decide +kernel, rfl, by decide⟩
theorem dX9_mark_24 : Dn cX9_mark 24 (.iload_n 3) 1 25 := ⟨by decide +kernel, rfl⟩
theorem dX9_mark_25 : Dn cX9_mark 25 (.iconst 1) 1 26 := ⟨by decide +kernel, rfl⟩
theorem dX9_mark_26 : Dj cX9_mark 26 (fun o => .if_icmp .ne o) (12) 3 29 38 := ⟨by decide +kernel, rfl, by decide⟩
theorem dX9_mark_29 : Dn cX9_mark 29 (.aload_n 0) 1 30 := ⟨by decide +kernel, rfl⟩
theorem dX9_mark_30 : Dn cX9_mark 30 (.iload_n 1) 1 31 := ⟨by decide +kernel, rfl⟩
theorem dX9_mark_31 : Dn cX9_mark 31 (.iload_n 2) 1 32 := ⟨by decide +kernel, rfl⟩
theorem dX9_mark_32 : Dn cX9_mark 32 (.invokevirtual 131) 3 35 := ⟨by decide +kernel, rfl⟩
theorem dX9_mark_35 : Dj cX9_mark 35 .goto (48) 3 38 83 := ⟨by decide +kernel, rfl, by decide⟩
theorem dX9_mark_38 : Dn cX9_mark 38 (.iload_n 3) 1 39 := ⟨by decide +kernel, rfl⟩
theorem dX9_mark_39 : Dn cX9_mark 39 (.iconst 2) 1 40 := ⟨by decide +kernel, rfl⟩
theorem dX9_mark_40 : Dj cX9_mark 40 (fun o => .if_icmp .ne o) (22) 3 43 62 := ⟨by decide +kernel, rfl, by decide⟩
theorem dX9_mark_43 : Dn cX9_mark 43 (.aload_n 0) 1 44 := ⟨by decide +kernel, rfl⟩
theorem dX9_mark_44 : Dn cX9_mark 44 (.getfield 26) 3 47 := ⟨by decide +kernel, rfl⟩
theorem dX9_mark_47 : Dn cX9_mark 47 (.aload_n 0) 1 48 := ⟨by decide +kernel, rfl⟩
theorem dX9_mark_48 : Dn cX9_mark 48 (.getfield 32) 3 51 := ⟨by decide +kernel, rfl⟩
theorem dX9_mark_51 : Dn cX9_mark 51 (.bipush 16) 2 53 := ⟨by decide +kernel, rfl⟩
theorem dX9_mark_53 : Dn cX9_mark 53 (.iload_n 1) 1 54 := ⟨by decide +kernel, rfl⟩
theorem dX9_mark_54 : Dn cX9_mark 54 (.imul) 1 55 := ⟨by decide +kernel, rfl⟩
theorem dX9_mark_55 : Dn cX9_mark 55 (.iload_n 2) 1 56 := ⟨by decide +kernel, rfl⟩
theorem dX9_mark_56 : Dn cX9_mark 56 (.iadd) 1 57 := ⟨by decide +kernel, rfl⟩
theorem dX9_mark_57 : Dn cX9_mark 57 (.iaload) 1 58 := ⟨by decide +kernel, rfl⟩
theorem dX9_mark_58 : Dn cX9_mark 58 (.iaload) 1 59 := ⟨by decide +kernel, rfl⟩
theorem dX9_mark_59 : Dj cX9_mark 59 .goto (24) 3 62 83 := ⟨by decide +kernel, rfl, by decide⟩
theorem dX9_mark_62 : Dn cX9_mark 62 (.iload_n 3) 1 63 := ⟨by decide +kernel, rfl⟩
theorem dX9_mark_63 : Dn cX9_mark 63 (.iconst 3) 1 64 := ⟨by decide +kernel, rfl⟩
theorem dX9_mark_64 : Dj cX9_mark 64 (fun o => .if_icmp .ne o) (17) 3 67 81 := ⟨by decide +kernel, rfl, by decide⟩
theorem dX9_mark_67 : Dn cX9_mark 67 (.aload_n 0) 1 68 := ⟨by decide +kernel, rfl⟩
theorem dX9_mark_68 : Dn cX9_mark 68 (.getfield 35) 3 71 := ⟨by decide +kernel, rfl⟩
theorem dX9_mark_71 : Dn cX9_mark 71 (.bipush 16) 2 73 := ⟨by decide +kernel, rfl⟩
theorem dX9_mark_73 : Dn cX9_mark 73 (.iload_n 1) 1 74 := ⟨by decide +kernel, rfl⟩
theorem dX9_mark_74 : Dn cX9_mark 74 (.imul) 1 75 := ⟨by decide +kernel, rfl⟩
theorem dX9_mark_75 : Dn cX9_mark 75 (.iload_n 2) 1 76 := ⟨by decide +kernel, rfl⟩
theorem dX9_mark_76 : Dn cX9_mark 76 (.iadd) 1 77 := ⟨by decide +kernel, rfl⟩
theorem dX9_mark_77 : Dn cX9_mark 77 (.iaload) 1 78 := ⟨by decide +kernel, rfl⟩
theorem dX9_mark_78 : Dj cX9_mark 78 .goto (5) 3 81 83 := ⟨by decide +kernel, rfl, by decide⟩
theorem dX9_mark_81 : Dn cX9_mark 81 (.bipush (-2)) 2 83 := ⟨by decide +kernel, rfl⟩
theorem dX9_mark_83 : Dn cX9_mark 83 (.ireturn) 1 84 := ⟨by decide +kernel, rfl⟩
theorem dX9_match_0 : Dn cX9_match 0 (.aload_n 0) 1 1 := ⟨by decide +kernel, rfl⟩
theorem dX9_match_1 : Dn cX9_match 1 (.iload_n 1) 1 2 := ⟨by decide +kernel, rfl⟩
theorem dX9_match_2 : Dn cX9_match 2 (.iload_n 2) 1 3 := ⟨by decide +kernel, rfl⟩
theorem dX9_match_3 : Dn cX9_match 3 (.invokevirtual 153) 3 6 := ⟨by decide +kernel, rfl⟩
theorem dX9_match_6 : Dj cX9_match 6 (fun o => .ifCond .eq o) (16) 3 9 22 := ⟨by decide +kernel, rfl, by decide⟩
theorem dX9_match_9 : Dn cX9_match 9 (.aload_n 0) 1 10 := ⟨by decide +kernel, rfl⟩
theorem dX9_match_10 : Dn cX9_match 10 (.iload_n 3) 1 11 := ⟨by decide +kernel, rfl⟩
theorem dX9_match_11 : Dn cX9_match 11 (.invokevirtual 90) 3 14 := ⟨by decide +kernel, rfl⟩
theorem dX9_match_14 : Dj cX9_match 14 (fun o => .ifCond .eq o) (8) 3 17 22 := ⟨by decide +kernel, rfl, by decide⟩
theorem dX9_match_17 : Dn cX9_match 17 (.iload_n 1) 1 18 := ⟨by decide +kernel, rfl⟩
theorem dX9_match_18 : Dn cX9_match 18 (.iload_n 3) 1 19 := ⟨by decide +kernel, rfl⟩
theorem dX9_match_19 : Dj cX9_match 19 (fun o => .if_icmp .ne o) (7) 3 22 26 := ⟨by decide +kernel, rfl, by decide⟩
theorem dX9_match_22 : Dn cX9_match 22 (.iconst (-1)) 1 23 := ⟨by decide +kernel, rfl⟩
theorem dX9_match_23 : Dj cX9_match 23 .goto (18) 3 26 41 := ⟨by decide +kernel, rfl, by decide⟩
theorem dX9_match_26 : Dn cX9_match 26 (.aload_n 0) 1 27 := ⟨by decide +kernel, rfl⟩
theorem dX9_match_27 : Dn cX9_match 27 (.getfield 38) 3 30 := ⟨by decide +kernel, rfl⟩
theorem dX9_match_30 : Dn cX9_match 30 (.bipush 16) 2 32 := ⟨by decide +kernel, rfl⟩
theorem dX9_match_32 : Dn cX9_match 32 (.iconst 4) 1 33 := ⟨by decide +kernel, rfl⟩
theorem dX9_match_33 : Dn cX9_match 33 (.iload_n 1) 1 34 := ⟨by decide +kernel, rfl⟩
theorem dX9_match_34 : Dn cX9_match 34 (.imul) 1 35 := ⟨by decide +kernel, rfl⟩
theorem dX9_match_35 : Dn cX9_match 35 (.iload_n 3) 1 36 := ⟨by decide +kernel, rfl⟩
theorem dX9_match_36 : Dn cX9_match 36 (.iadd) 1 37 := ⟨by decide +kernel, rfl⟩
theorem dX9_match_37 : Dn cX9_match 37 (.imul) 1 38 := ⟨by decide +kernel, rfl⟩
theorem dX9_match_38 : Dn cX9_match 38 (.iload_n 2) 1 39 := ⟨by decide +kernel, rfl⟩
theorem dX9_match_39 : Dn cX9_match 39 (.iadd) 1 40 := ⟨by decide +kernel, rfl⟩
theorem dX9_match_40 : Dn cX9_match 40 (.iaload) 1 41 := ⟨by decide +kernel, rfl⟩
theorem dX9_match_41 : Dn cX9_match 41 (.ireturn) 1 42 := ⟨by decide +kernel, rfl⟩
theorem dX9_arePair_0 : Dn cX9_arePair 0 (.aload_n 0) 1 1 := ⟨by decide +kernel, rfl⟩
theorem dX9_arePair_1 : Dn cX9_arePair 1 (.iload_n 1) 1 2 := ⟨by decide +kernel, rfl⟩
theorem dX9_arePair_2 : Dn cX9_arePair 2 (.invokevirtual 90) 3 5 := ⟨by decide +kernel, rfl⟩
theorem dX9_arePair_5 : Dj cX9_arePair 5 (fun o => .ifCond .eq o) (20) 3 8 25 := ⟨by decide +kernel, rfl, by decide⟩
theorem dX9_arePair_8 : Dn cX9_arePair 8 (.aload_n 0) 1 9 := ⟨by decide +kernel, rfl⟩
theorem dX9_arePair_9 : Dn cX9_arePair 9 (.iload_n 2) 1 10 := ⟨by decide +kernel, rfl⟩
theorem dX9_arePair_10 : Dn cX9_arePair 10 (.invokevirtual 90) 3 13 := ⟨by decide +kernel, rfl⟩
theorem dX9_arePair_13 : Dj cX9_arePair 13 (fun o => .ifCond .eq o) (12) 3 16 25 := ⟨by decide +kernel, rfl, by decide⟩
theorem dX9_arePair_16 : Dn cX9_arePair 16 (.iload_n 1) 1 17 := ⟨by decide +kernel, rfl⟩
theorem dX9_arePair_17 : Dn cX9_arePair 17 (.iload_n 2) 1 18 := ⟨by decide +kernel, rfl⟩
theorem dX9_arePair_18 : Dj cX9_arePair 18 (fun o => .if_icmp .eq o) (7) 3 21 25 := ⟨by decide +kernel, rfl, by decide⟩
theorem dX9_arePair_21 : Dn cX9_arePair 21 (.iconst 1) 1 22 := ⟨by decide +kernel, rfl⟩
theorem dX9_arePair_22 : Dj cX9_arePair 22 .goto (4) 3 25 26 := ⟨by decide +kernel, rfl, by decide⟩
theorem dX9_arePair_25 : Dn cX9_arePair 25 (.iconst 0) 1 26 := ⟨by decide +kernel, rfl⟩
theorem dX9_arePair_26 : Dn cX9_arePair 26 (.ireturn) 1 27 := ⟨by decide +kernel, rfl⟩
theorem dX9_shift_0 : Dn cX9_shift 0 (.aload_n 0) 1 1 := ⟨by decide +kernel, rfl⟩
theorem dX9_shift_1 : Dn cX9_shift 1 (.iload_n 1) 1 2 := ⟨by decide +kernel, rfl⟩
theorem dX9_shift_2 : Dn cX9_shift 2 (.iload_n 2) 1 3 := ⟨by decide +kernel, rfl⟩
theorem dX9_shift_3 : Dn cX9_shift 3 (.invokevirtual 157) 3 6 := ⟨by decide +kernel, rfl⟩
theorem dX9_shift_6 : Dj cX9_shift 6 (fun o => .ifCond .ne o) (6) 3 9 12 := ⟨by decide +kernel, rfl, by decide⟩
theorem dX9_shift_9 : Dn cX9_shift 9 (.ldc 97) 2 11 := ⟨by decide +kernel, rfl⟩
theorem dX9_shift_11 : Dn cX9_shift 11 (.ireturn) 1 12 := ⟨by decide +kernel, rfl⟩
theorem dX9_shift_12 : Dn cX9_shift 12 (.iload_n 3) 1 13 := ⟨by decide +kernel, rfl⟩
theorem dX9_shift_13 : Dn cX9_shift 13 (.iconst 0) 1 14 := ⟨by decide +kernel, rfl⟩
theorem dX9_shift_14 : Dn cX9_shift 14 (.iconst 3) 1 15 := ⟨by decide +kernel, rfl⟩
theorem dX9_shift_15 : Dn cX9_shift 15 (.invokestatic 71) 3 18 := ⟨by decide +kernel, rfl⟩
theorem dX9_shift_18 : Dj cX9_shift 18 (fun o => .ifCond .ne o) (6) 3 21 24 := ⟨by decide +kernel, rfl, by decide⟩
theorem dX9_shift_21 : Dn cX9_shift 21 (.ldc 98) 2 23 := ⟨by decide +kernel, rfl⟩
theorem dX9_shift_23 : Dn cX9_shift 23 (.ireturn) 1 24 := ⟨by decide +kernel, rfl⟩
theorem dX9_shift_24 : Dn cX9_shift 24 (.aload_n 0) 1 25 := ⟨by decide +kernel, rfl⟩
theorem dX9_shift_25 : Dn cX9_shift 25 (.invokevirtual 150) 3 28 := ⟨by decide +kernel, rfl⟩
theorem dX9_shift_28 : Dn cX9_shift 28 (.iconst 4) 1 29 := ⟨by decide +kernel, rfl⟩
theorem dX9_shift_29 : Dn cX9_shift 29 (.iload_n 1) 1 30 := ⟨by decide +kernel, rfl⟩
theorem dX9_shift_30 : Dn cX9_shift 30 (.imul) 1 31 := ⟨by decide +kernel, rfl⟩
theorem dX9_shift_31 : Dn cX9_shift 31 (.iload_n 2) 1 32 := ⟨by decide +kernel, rfl⟩
theorem dX9_shift_32 : Dn cX9_shift 32 (.iadd) 1 33 := ⟨by decide +kernel, rfl⟩
theorem dX9_shift_33 : Dn cX9_shift 33 (.istore 4) 2 35 := ⟨by decide +kernel, rfl⟩
theorem dX9_shift_35 : Dn cX9_shift 35 (.iload_n 3) 1 36 := ⟨by decide +kernel, rfl⟩
theorem dX9_shift_36 : Dn cX9_shift 36 (.iconst 1) 1 37 := ⟨by decide +kernel, rfl⟩
theorem dX9_shift_37 : Dj cX9_shift 37 (fun o => .if_icmp .le o) (26) 3 40 63 := ⟨by decide +kernel, rfl, by decide⟩
theorem dX9_shift_40 : Dn cX9_shift 40 (.iload_n 3) 1 41 := ⟨by decide +kernel, rfl⟩
theorem dX9_shift_41 : Dn cX9_shift 41 (.iconst 2) 1 42 := ⟨by decide +kernel, rfl⟩
theorem dX9_shift_42 : Dj cX9_shift 42 (fun o => .if_icmp .ne o) (13) 3 45 55 := ⟨by decide +kernel, rfl, by decide⟩
theorem dX9_shift_45 : Dn cX9_shift 45 (.aload_n 0) 1 46 := ⟨by decide +kernel, rfl⟩
theorem dX9_shift_46 : Dn cX9_shift 46 (.getfield 47) 3 49 := ⟨by decide +kernel, rfl⟩
theorem dX9_shift_49 : Dn cX9_shift 49 (.iload 4) 2 51 := ⟨by decide +kernel, rfl⟩
theorem dX9_shift_51 : Dn cX9_shift 51 (.iaload) 1 52 := ⟨by decide +kernel, rfl⟩
theorem dX9_shift_52 : Dj cX9_shift 52 .goto (10) 3 55 62 := ⟨by decide +kernel, rfl, by decide⟩
theorem dX9_shift_55 : Dn cX9_shift 55 (.aload_n 0) 1 56 := ⟨by decide +kernel, rfl⟩
theorem dX9_shift_56 : Dn cX9_shift 56 (.getfield 50) 3 59 := ⟨by decide +kernel, rfl⟩
theorem dX9_shift_59 : Dn cX9_shift 59 (.iload 4) 2 61 := ⟨by decide +kernel, rfl⟩
theorem dX9_shift_61 : Dn cX9_shift 61 (.iaload) 1 62 := ⟨by decide +kernel, rfl⟩
theorem dX9_shift_62 : Dn cX9_shift 62 (.ireturn) 1 63 := ⟨by decide +kernel, rfl⟩
theorem dX9_shift_63 : Dn cX9_shift 63 (.aload_n 0) 1 64 := ⟨by decide +kernel, rfl⟩
theorem dX9_shift_64 : Dn cX9_shift 64 (.getfield 47) 3 67 := ⟨by decide +kernel, rfl⟩
theorem dX9_shift_67 : Dn cX9_shift 67 (.iload 4) 2 69 := ⟨by decide +kernel, rfl⟩
theorem dX9_shift_69 : Dn cX9_shift 69 (.iaload) 1 70 := ⟨by decide +kernel, rfl⟩
theorem dX9_shift_70 : Dj cX9_shift 70 (fun o => .ifCond .ne o) (8) 3 73 78 := ⟨by decide +kernel, rfl, by decide⟩
theorem dX9_shift_73 : Dn cX9_shift 73 (.ldc 160) 2 75 := ⟨by decide +kernel, rfl⟩
theorem dX9_shift_75 : Dj cX9_shift 75 .goto (24) 3 78 99 := ⟨by decide +kernel, rfl, by decide⟩
theorem dX9_shift_78 : Dn cX9_shift 78 (.iload_n 3) 1 79 := ⟨by decide +kernel, rfl⟩
theorem dX9_shift_79 : Dj cX9_shift 79 (fun o => .ifCond .ne o) (13) 3 82 92 := ⟨by decide +kernel, rfl, by decide⟩
theorem dX9_shift_82 : Dn cX9_shift 82 (.aload_n 0) 1 83 := ⟨by decide +kernel, rfl⟩
theorem dX9_shift_83 : Dn cX9_shift 83 (.getfield 41) 3 86 := ⟨by decide +kernel, rfl⟩
theorem dX9_shift_86 : Dn cX9_shift 86 (.iload 4) 2 88 := ⟨by decide +kernel, rfl⟩
theorem dX9_shift_88 : Dn cX9_shift 88 (.iaload) 1 89 := ⟨by decide +kernel, rfl⟩
theorem dX9_shift_89 : Dj cX9_shift 89 .goto (10) 3 92 99 := ⟨by decide +kernel, rfl, by decide⟩
theorem dX9_shift_92 : Dn cX9_shift 92 (.aload_n 0) 1 93 := ⟨by decide +kernel, rfl⟩
theorem dX9_shift_93 : Dn cX9_shift 93 (.getfield 44) 3 96 := ⟨by decide +kernel, rfl⟩
theorem dX9_shift_96 : Dn cX9_shift 96 (.iload 4) 2 98 := ⟨by decide +kernel, rfl⟩
theorem dX9_shift_98 : Dn cX9_shift 98 (.iaload) 1 99 := ⟨by decide +kernel, rfl⟩
theorem dX9_shift_99 : Dn cX9_shift 99 (.ireturn) 1 100 := ⟨by decide +kernel, rfl⟩
theorem dX9_place_0 : Dn cX9_place 0 (.aload_n 0) 1 1 := ⟨by decide +kernel, rfl⟩
theorem dX9_place_1 : Dn cX9_place 1 (.iload_n 1) 1 2 := ⟨by decide +kernel, rfl⟩
theorem dX9_place_2 : Dn cX9_place 2 (.invokevirtual 90) 3 5 := ⟨by decide +kernel, rfl⟩
theorem dX9_place_5 : Dj cX9_place 5 (fun o => .ifCond .ne o) (6) 3 8 11 := ⟨by decide +kernel, rfl, by decide⟩
theorem dX9_place_8 : Dn cX9_place 8 (.ldc 97) 2 10 := ⟨by decide +kernel, rfl⟩
theorem dX9_place_10 : Dn cX9_place 10 (.ireturn) 1 11 := ⟨by decide +kernel, rfl⟩
theorem dX9_place_11 : Dn cX9_place 11 (.iload_n 2) 1 12 := ⟨by decide +kernel, rfl⟩
theorem dX9_place_12 : Dn cX9_place 12 (.iconst 0) 1 13 := ⟨by decide +kernel, rfl⟩
theorem dX9_place_13 : Dn cX9_place 13 (.iconst 5) 1 14 := ⟨by decide +kernel, rfl⟩
theorem dX9_place_14 : Dn cX9_place 14 (.invokestatic 71) 3 17 := ⟨by decide +kernel, rfl⟩
theorem dX9_place_17 : Dj cX9_place 17 (fun o => .ifCond .ne o) (6) 3 20 23 := ⟨by decide +kernel, rfl, by decide⟩
theorem dX9_place_20 : Dn cX9_place 20 (.ldc 98) 2 22 := ⟨by decide +kernel, rfl⟩
theorem dX9_place_22 : Dn cX9_place 22 (.ireturn) 1 23 := ⟨by decide +kernel, rfl⟩
theorem dX9_place_23 : Dn cX9_place 23 (.aload_n 0) 1 24 := ⟨by decide +kernel, rfl⟩
theorem dX9_place_24 : Dn cX9_place 24 (.invokevirtual 150) 3 27 := ⟨by decide +kernel, rfl⟩
theorem dX9_place_27 : Dn cX9_place 27 (.iload_n 2) 1 28 := ⟨by decide +kernel, rfl⟩
theorem dX9_place_28 : Dn cX9_place 28 (.iconst 3) 1 29 := ⟨by decide +kernel, rfl⟩
theorem dX9_place_29 : Dj cX9_place 29 (fun o => .if_icmp .le o) (24) 3 32 53 := ⟨by decide +kernel, rfl, by decide⟩
theorem dX9_place_32 : Dn cX9_place 32 (.iload_n 2) 1 33 := ⟨by decide +kernel, rfl⟩
theorem dX9_place_33 : Dn cX9_place 33 (.iconst 4) 1 34 := ⟨by decide +kernel, rfl⟩
theorem dX9_place_34 : Dj cX9_place 34 (fun o => .if_icmp .ne o) (12) 3 37 46 := ⟨by decide +kernel, rfl, by decide⟩
theorem dX9_place_37 : Dn cX9_place 37 (.aload_n 0) 1 38 := ⟨by decide +kernel, rfl⟩
theorem dX9_place_38 : Dn cX9_place 38 (.getfield 7) 3 41 := ⟨by decide +kernel, rfl⟩
theorem dX9_place_41 : Dn cX9_place 41 (.iload_n 1) 1 42 := ⟨by decide +kernel, rfl⟩
theorem dX9_place_42 : Dn cX9_place 42 (.iaload) 1 43 := ⟨by decide +kernel, rfl⟩
theorem dX9_place_43 : Dj cX9_place 43 .goto (9) 3 46 52 := ⟨by decide +kernel, rfl, by decide⟩
theorem dX9_place_46 : Dn cX9_place 46 (.aload_n 0) 1 47 := ⟨by decide +kernel, rfl⟩
theorem dX9_place_47 : Dn cX9_place 47 (.getfield 13) 3 50 := ⟨by decide +kernel, rfl⟩
theorem dX9_place_50 : Dn cX9_place 50 (.iload_n 1) 1 51 := ⟨by decide +kernel, rfl⟩
theorem dX9_place_51 : Dn cX9_place 51 (.iaload) 1 52 := ⟨by decide +kernel, rfl⟩
theorem dX9_place_52 : Dn cX9_place 52 (.ireturn) 1 53 := ⟨by decide +kernel, rfl⟩
theorem dX9_place_53 : Dn cX9_place 53 (.aload_n 0) 1 54 := ⟨by decide +kernel, rfl⟩
theorem dX9_place_54 : Dn cX9_place 54 (.getfield 62) 3 57 := ⟨by decide +kernel, rfl⟩
theorem dX9_place_57 : Dn cX9_place 57 (.iload_n 1) 1 58 := ⟨by decide +kernel, rfl⟩
theorem dX9_place_58 : Dn cX9_place 58 (.iaload) 1 59 := ⟨by decide +kernel, rfl⟩
theorem dX9_place_59 : Dj cX9_place 59 (fun o => .ifCond .ge o) (6) 3 62 65 := ⟨by decide +kernel, rfl, by decide⟩
theorem dX9_place_62 : Dn cX9_place 62 (.ldc 160) 2 64 := ⟨by decide +kernel, rfl⟩
theorem dX9_place_64 : Dn cX9_place 64 (.ireturn) 1 65 := ⟨by decide +kernel, rfl⟩
theorem dX9_place_65 : Dn cX9_place 65 (.iload_n 2) 1 66 := ⟨by decide +kernel, rfl⟩
theorem dX9_place_66 : Dj cX9_place 66 (fun o => .ifCond .ne o) (12) 3 69 78 := ⟨by decide +kernel, rfl, by decide⟩
theorem dX9_place_69 : Dn cX9_place 69 (.aload_n 0) 1 70 := ⟨by decide +kernel, rfl⟩
theorem dX9_place_70 : Dn cX9_place 70 (.getfield 53) 3 73 := ⟨by decide +kernel, rfl⟩
theorem dX9_place_73 : Dn cX9_place 73 (.iload_n 1) 1 74 := ⟨by decide +kernel, rfl⟩
theorem dX9_place_74 : Dn cX9_place 74 (.iaload) 1 75 := ⟨by decide +kernel, rfl⟩
theorem dX9_place_75 : Dj cX9_place 75 .goto (37) 3 78 112 := ⟨by decide +kernel, rfl, by decide⟩
theorem dX9_place_78 : Dn cX9_place 78 (.iload_n 2) 1 79 := ⟨by decide +kernel, rfl⟩
theorem dX9_place_79 : Dn cX9_place 79 (.iconst 1) 1 80 := ⟨by decide +kernel, rfl⟩
theorem dX9_place_80 : Dj cX9_place 80 (fun o => .if_icmp .ne o) (12) 3 83 92 := ⟨by decide +kernel, rfl, by decide⟩
theorem dX9_place_83 : Dn cX9_place 83 (.aload_n 0) 1 84 := ⟨by decide +kernel, rfl⟩
theorem dX9_place_84 : Dn cX9_place 84 (.getfield 56) 3 87 := ⟨by decide +kernel, rfl⟩
theorem dX9_place_87 : Dn cX9_place 87 (.iload_n 1) 1 88 := ⟨by decide +kernel, rfl⟩
theorem dX9_place_88 : Dn cX9_place 88 (.iaload) 1 89 := ⟨by decide +kernel, rfl⟩
theorem dX9_place_89 : Dj cX9_place 89 .goto (23) 3 92 112 := ⟨by decide +kernel, rfl, by decide⟩
theorem dX9_place_92 : Dn cX9_place 92 (.iload_n 2) 1 93 := ⟨by decide +kernel, rfl⟩
theorem dX9_place_93 : Dn cX9_place 93 (.iconst 2) 1 94 := ⟨by decide +kernel, rfl⟩
theorem dX9_place_94 : Dj cX9_place 94 (fun o => .if_icmp .ne o) (12) 3 97 106 := ⟨by decide +kernel, rfl, by decide⟩
theorem dX9_place_97 : Dn cX9_place 97 (.aload_n 0) 1 98 := ⟨by decide +kernel, rfl⟩
theorem dX9_place_98 : Dn cX9_place 98 (.getfield 59) 3 101 := ⟨by decide +kernel, rfl⟩
theorem dX9_place_101 : Dn cX9_place 101 (.iload_n 1) 1 102 := ⟨by decide +kernel, rfl⟩
theorem dX9_place_102 : Dn cX9_place 102 (.iaload) 1 103 := ⟨by decide +kernel, rfl⟩
theorem dX9_place_103 : Dj cX9_place 103 .goto (9) 3 106 112 := ⟨by decide +kernel, rfl, by decide⟩
theorem dX9_place_106 : Dn cX9_place 106 (.aload_n 0) 1 107 := ⟨by decide +kernel, rfl⟩
theorem dX9_place_107 : Dn cX9_place 107 (.getfield 62) 3 110 := ⟨by decide +kernel, rfl⟩
theorem dX9_place_110 : Dn cX9_place 110 (.iload_n 1) 1 111 := ⟨by decide +kernel, rfl⟩
theorem dX9_place_111 : Dn cX9_place 111 (.iaload) 1 112 := ⟨by decide +kernel, rfl⟩
theorem dX9_place_112 : Dn cX9_place 112 (.ireturn) 1 113 := ⟨by decide +kernel, rfl⟩
theorem dX9_open_0 : Dn cX9_open 0 (.aload_n 0) 1 1 := ⟨by decide +kernel, rfl⟩
theorem dX9_open_1 : Dn cX9_open 1 (.invokevirtual 150) 3 4 := ⟨by decide +kernel, rfl⟩
theorem dX9_open_4 : Dn cX9_open 4 (.iconst 0) 1 5 := ⟨by decide +kernel, rfl⟩
theorem dX9_open_5 : Dn cX9_open 5 (.istore_n 1) 1 6 := ⟨by decide +kernel, rfl⟩
theorem dX9_open_6 : Dn cX9_open 6 (.iconst 0) 1 7 := ⟨by decide +kernel, rfl⟩
theorem dX9_open_7 : Dn cX9_open 7 (.istore_n 2) 1 8 := ⟨by decide +kernel, rfl⟩
theorem dX9_open_8 : Dn cX9_open 8 (.iload_n 2) 1 9 := ⟨by decide +kernel, rfl⟩
theorem dX9_open_9 : Dn cX9_open 9 (.aload_n 0) 1 10 := ⟨by decide +kernel, rfl⟩
theorem dX9_open_10 : Dn cX9_open 10 (.getfield 68) 3 13 := ⟨by decide +kernel, rfl⟩
theorem dX9_open_13 : Dj cX9_open 13 (fun o => .if_icmp .ge o) (160) 3 16 173 := ⟨by decide +kernel, rfl, by decide⟩
theorem dX9_open_16 : Dn cX9_open 16 (.iload_n 2) 1 17 := ⟨by decide +kernel, rfl⟩
theorem dX9_open_17 : Dn cX9_open 17 (.iconst 1) 1 18 := ⟨by decide +kernel, rfl⟩
theorem dX9_open_18 : Dn cX9_open 18 (.iadd) 1 19 := ⟨by decide +kernel, rfl⟩
theorem dX9_open_19 : Dn cX9_open 19 (.istore_n 3) 1 20 := ⟨by decide +kernel, rfl⟩
theorem dX9_open_20 : Dn cX9_open 20 (.iload_n 3) 1 21 := ⟨by decide +kernel, rfl⟩
theorem dX9_open_21 : Dn cX9_open 21 (.aload_n 0) 1 22 := ⟨by decide +kernel, rfl⟩
theorem dX9_open_22 : Dn cX9_open 22 (.getfield 68) 3 25 := ⟨by decide +kernel, rfl⟩
theorem dX9_open_25 : Dj cX9_open 25 (fun o => .if_icmp .ge o) (142) 3 28 167 := ⟨by decide +kernel, rfl, by decide⟩
theorem dX9_open_28 : Dn cX9_open 28 (.iconst 4) 1 29 := ⟨by decide +kernel, rfl⟩
theorem dX9_open_29 : Dn cX9_open 29 (.iload_n 2) 1 30 := ⟨by decide +kernel, rfl⟩
theorem dX9_open_30 : Dn cX9_open 30 (.imul) 1 31 := ⟨by decide +kernel, rfl⟩
theorem dX9_open_31 : Dn cX9_open 31 (.iload_n 3) 1 32 := ⟨by decide +kernel, rfl⟩
theorem dX9_open_32 : Dn cX9_open 32 (.iadd) 1 33 := ⟨by decide +kernel, rfl⟩
theorem dX9_open_33 : Dn cX9_open 33 (.istore 4) 2 35 := ⟨by decide +kernel, rfl⟩
theorem dX9_open_35 : Dn cX9_open 35 (.aload_n 0) 1 36 := ⟨by decide +kernel, rfl⟩
theorem dX9_open_36 : Dn cX9_open 36 (.getfield 62) 3 39 := ⟨by decide +kernel, rfl⟩
theorem dX9_open_39 : Dn cX9_open 39 (.iload_n 2) 1 40 := ⟨by decide +kernel, rfl⟩
theorem dX9_open_40 : Dn cX9_open 40 (.iaload) 1 41 := ⟨by decide +kernel, rfl⟩
theorem dX9_open_41 : Dj cX9_open 41 (fun o => .ifCond .lt o) (46) 3 44 87 := ⟨by decide +kernel, rfl, by decide⟩
theorem dX9_open_44 : Dn cX9_open 44 (.aload_n 0) 1 45 := ⟨by decide +kernel, rfl⟩
theorem dX9_open_45 : Dn cX9_open 45 (.getfield 62) 3 48 := ⟨by decide +kernel, rfl⟩
theorem dX9_open_48 : Dn cX9_open 48 (.iload_n 3) 1 49 := ⟨by decide +kernel, rfl⟩
theorem dX9_open_49 : Dn cX9_open 49 (.iaload) 1 50 := ⟨by decide +kernel, rfl⟩
theorem dX9_open_50 : Dj cX9_open 50 (fun o => .ifCond .lt o) (37) 3 53 87 := ⟨by decide +kernel, rfl, by decide⟩
theorem dX9_open_53 : Dn cX9_open 53 (.aload_n 0) 1 54 := ⟨by decide +kernel, rfl⟩
theorem dX9_open_54 : Dn cX9_open 54 (.getfield 47) 3 57 := ⟨by decide +kernel, rfl⟩
theorem dX9_open_57 : Dn cX9_open 57 (.iload 4) 2 59 := ⟨by decide +kernel, rfl⟩
theorem dX9_open_59 : Dn cX9_open 59 (.iaload) 1 60 := ⟨by decide +kernel, rfl⟩
theorem dX9_open_60 : Dj cX9_open 60 (fun o => .ifCond .le o) (27) 3 63 87 := ⟨by decide +kernel, rfl, by decide⟩
theorem dX9_open_63 : Dn cX9_open 63 (.aload_n 0) 1 64 := ⟨by decide +kernel, rfl⟩
theorem dX9_open_64 : Dn cX9_open 64 (.getfield 59) 3 67 := ⟨by decide +kernel, rfl⟩
theorem dX9_open_67 : Dn cX9_open 67 (.iload_n 2) 1 68 := ⟨by decide +kernel, rfl⟩
theorem dX9_open_68 : Dn cX9_open 68 (.iaload) 1 69 := ⟨by decide +kernel, rfl⟩
theorem dX9_open_69 : Dn cX9_open 69 (.iload_n 3) 1 70 := ⟨by decide +kernel, rfl⟩
theorem dX9_open_70 : Dj cX9_open 70 (fun o => .if_icmp .eq o) (17) 3 73 87 := ⟨by decide +kernel, rfl, by decide⟩
theorem dX9_open_73 : Dn cX9_open 73 (.aload_n 0) 1 74 := ⟨by decide +kernel, rfl⟩
theorem dX9_open_74 : Dn cX9_open 74 (.getfield 59) 3 77 := ⟨by decide +kernel, rfl⟩
theorem dX9_open_77 : Dn cX9_open 77 (.iload_n 3) 1 78 := ⟨by decide +kernel, rfl⟩
theorem dX9_open_78 : Dn cX9_open 78 (.iaload) 1 79 := ⟨by decide +kernel, rfl⟩
theorem dX9_open_79 : Dn cX9_open 79 (.iload_n 2) 1 80 := ⟨by decide +kernel, rfl⟩
theorem dX9_open_80 : Dj cX9_open 80 (fun o => .if_icmp .eq o) (7) 3 83 87 := ⟨by decide +kernel, rfl, by decide⟩
theorem dX9_open_83 : Dn cX9_open 83 (.iconst 1) 1 84 := ⟨by decide +kernel, rfl⟩
theorem dX9_open_84 : Dj cX9_open 84 .goto (4) 3 87 88 := ⟨by decide +kernel, rfl, by decide⟩
theorem dX9_open_87 : Dn cX9_open 87 (.iconst 0) 1 88 := ⟨by decide +kernel, rfl⟩
theorem dX9_open_88 : Dn cX9_open 88 (.istore 5) 2 90 := ⟨by decide +kernel, rfl⟩
theorem dX9_open_90 : Dn cX9_open 90 (.aload_n 0) 1 91 := ⟨by decide +kernel, rfl⟩
theorem dX9_open_91 : Dn cX9_open 91 (.getfield 53) 3 94 := ⟨by decide +kernel, rfl⟩
theorem dX9_open_94 : Dn cX9_open 94 (.iload_n 3) 1 95 := ⟨by decide +kernel, rfl⟩
theorem dX9_open_95 : Dn cX9_open 95 (.iaload) 1 96 := ⟨by decide +kernel, rfl⟩
theorem dX9_open_96 : Dn cX9_open 96 (.aload_n 0) 1 97 := ⟨by decide +kernel, rfl⟩
theorem dX9_open_97 : Dn cX9_open 97 (.getfield 53) 3 100 := ⟨by decide +kernel, rfl⟩
theorem dX9_open_100 : Dn cX9_open 100 (.iload_n 2) 1 101 := ⟨by decide +kernel, rfl⟩
theorem dX9_open_101 : Dn cX9_open 101 (.iaload) 1 102 := ⟨by decide +kernel, rfl⟩
theorem dX9_open_102 : Dn cX9_open 102 (.aload_n 0) 1 103 := ⟨by decide +kernel, rfl⟩
theorem dX9_open_103 : Dn cX9_open 103 (.getfield 41) 3 106 := ⟨by decide +kernel, rfl⟩
theorem dX9_open_106 : Dn cX9_open 106 (.iload 4) 2 108 := ⟨by decide +kernel, rfl⟩
theorem dX9_open_108 : Dn cX9_open 108 (.iaload) 1 109 := ⟨by decide +kernel, rfl⟩
theorem dX9_open_109 : Dn cX9_open 109 (.iadd) 1 110 := ⟨by decide +kernel, rfl⟩
theorem dX9_open_110 : Dj cX9_open 110 (fun o => .if_icmp .ne o) (26) 3 113 136 := ⟨by decide +kernel, rfl, by decide⟩
theorem dX9_open_113 : Dn cX9_open 113 (.aload_n 0) 1 114 := ⟨by decide +kernel, rfl⟩
theorem dX9_open_114 : Dn cX9_open 114 (.getfield 56) 3 117 := ⟨by decide +kernel, rfl⟩
theorem dX9_open_117 : Dn cX9_open 117 (.iload_n 3) 1 118 := ⟨by decide +kernel, rfl⟩
theorem dX9_open_118 : Dn cX9_open 118 (.iaload) 1 119 := ⟨by decide +kernel, rfl⟩
theorem dX9_open_119 : Dn cX9_open 119 (.aload_n 0) 1 120 := ⟨by decide +kernel, rfl⟩
theorem dX9_open_120 : Dn cX9_open 120 (.getfield 56) 3 123 := ⟨by decide +kernel, rfl⟩
theorem dX9_open_123 : Dn cX9_open 123 (.iload_n 2) 1 124 := ⟨by decide +kernel, rfl⟩
theorem dX9_open_124 : Dn cX9_open 124 (.iaload) 1 125 := ⟨by decide +kernel, rfl⟩
theorem dX9_open_125 : Dn cX9_open 125 (.aload_n 0) 1 126 := ⟨by decide +kernel, rfl⟩
theorem dX9_open_126 : Dn cX9_open 126 (.getfield 44) 3 129 := ⟨by decide +kernel, rfl⟩
theorem dX9_open_129 : Dn cX9_open 129 (.iload 4) 2 131 := ⟨by decide +kernel, rfl⟩
theorem dX9_open_131 : Dn cX9_open 131 (.iaload) 1 132 := ⟨by decide +kernel, rfl⟩
theorem dX9_open_132 : Dn cX9_open 132 (.iadd) 1 133 := ⟨by decide +kernel, rfl⟩
theorem dX9_open_133 : Dj cX9_open 133 (fun o => .if_icmp .eq o) (7) 3 136 140 := ⟨by decide +kernel, rfl, by decide⟩
theorem dX9_open_136 : Dn cX9_open 136 (.iconst 1) 1 137 := ⟨by decide +kernel, rfl⟩
theorem dX9_open_137 : Dj cX9_open 137 .goto (4) 3 140 141 := ⟨by decide +kernel, rfl, by decide⟩
theorem dX9_open_140 : Dn cX9_open 140 (.iconst 0) 1 141 := ⟨by decide +kernel, rfl⟩
theorem dX9_open_141 : Dn cX9_open 141 (.istore 6) 2 143 := ⟨by decide +kernel, rfl⟩
theorem dX9_open_143 : Dn cX9_open 143 (.iload_n 1) 1 144 := ⟨by decide +kernel, rfl⟩
theorem dX9_open_144 : Dn cX9_open 144 (.iload 5) 2 146 := ⟨by decide +kernel, rfl⟩
theorem dX9_open_146 : Dj cX9_open 146 (fun o => .ifCond .eq o) (12) 3 149 158 := ⟨by decide +kernel, rfl, by decide⟩
theorem dX9_open_149 : Dn cX9_open 149 (.iload 6) 2 151 := ⟨by decide +kernel, rfl⟩
theorem dX9_open_151 : Dj cX9_open 151 (fun o => .ifCond .eq o) (7) 3 154 158 := ⟨by decide +kernel, rfl, by decide⟩
theorem dX9_open_154 : Dn cX9_open 154 (.iconst 1) 1 155 := ⟨by decide +kernel, rfl⟩
theorem dX9_open_155 : Dj cX9_open 155 .goto (4) 3 158 159 := ⟨by decide +kernel, rfl, by decide⟩
theorem dX9_open_158 : Dn cX9_open 158 (.iconst 0) 1 159 := ⟨by decide +kernel, rfl⟩
theorem dX9_open_159 : Dn cX9_open 159 (.iadd) 1 160 := ⟨by decide +kernel, rfl⟩
theorem dX9_open_160 : Dn cX9_open 160 (.istore_n 1) 1 161 := ⟨by decide +kernel, rfl⟩
theorem dX9_open_161 : Dn cX9_open 161 (.iinc 3 1) 3 164 := ⟨by decide +kernel, rfl⟩
theorem dX9_open_164 : Dj cX9_open 164 .goto (-144) 3 167 20 := ⟨by decide +kernel, rfl, by decide⟩
theorem dX9_open_167 : Dn cX9_open 167 (.iinc 2 1) 3 170 := ⟨by decide +kernel, rfl⟩
theorem dX9_open_170 : Dj cX9_open 170 .goto (-162) 3 173 8 := ⟨by decide +kernel, rfl, by decide⟩
theorem dX9_open_173 : Dn cX9_open 173 (.iload_n 1) 1 174 := ⟨by decide +kernel, rfl⟩
theorem dX9_open_174 : Dn cX9_open 174 (.ireturn) 1 175 := ⟨by decide +kernel, rfl⟩
theorem dX9_joined_0 : Dn cX9_joined 0 (.aload_n 0) 1 1 := ⟨by decide +kernel, rfl⟩
theorem dX9_joined_1 : Dn cX9_joined 1 (.invokevirtual 150) 3 4 := ⟨by decide +kernel, rfl⟩
theorem dX9_joined_4 : Dn cX9_joined 4 (.aload_n 0) 1 5 := ⟨by decide +kernel, rfl⟩
theorem dX9_joined_5 : Dn cX9_joined 5 (.getfield 137) 3 8 := ⟨by decide +kernel, rfl⟩
theorem dX9_joined_8 : Dn cX9_joined 8 (.ireturn) 1 9 := ⟨by decide +kernel, rfl⟩
theorem dX9_layOverlap_0 : Dn cX9_layOverlap 0 (.aload_n 0) 1 1 := ⟨by decide +kernel, rfl⟩
theorem dX9_layOverlap_1 : Dn cX9_layOverlap 1 (.aload_n 0) 1 2 := ⟨by decide +kernel, rfl⟩
theorem dX9_layOverlap_2 : Dn cX9_layOverlap 2 (.getfield 53) 3 5 := ⟨by decide +kernel, rfl⟩
theorem dX9_layOverlap_5 : Dn cX9_layOverlap 5 (.iload_n 1) 1 6 := ⟨by decide +kernel, rfl⟩
theorem dX9_layOverlap_6 : Dn cX9_layOverlap 6 (.iaload) 1 7 := ⟨by decide +kernel, rfl⟩
theorem dX9_layOverlap_7 : Dn cX9_layOverlap 7 (.aload_n 0) 1 8 := ⟨by decide +kernel, rfl⟩
theorem dX9_layOverlap_8 : Dn cX9_layOverlap 8 (.getfield 53) 3 11 := ⟨by decide +kernel, rfl⟩
theorem dX9_layOverlap_11 : Dn cX9_layOverlap 11 (.iload_n 2) 1 12 := ⟨by decide +kernel, rfl⟩
theorem dX9_layOverlap_12 : Dn cX9_layOverlap 12 (.iaload) 1 13 := ⟨by decide +kernel, rfl⟩
theorem dX9_layOverlap_13 : Dj cX9_layOverlap 13 (fun o => .if_icmp .le o) (12) 3 16 25 := ⟨by decide +kernel, rfl, by decide⟩
theorem dX9_layOverlap_16 : Dn cX9_layOverlap 16 (.aload_n 0) 1 17 := ⟨by decide +kernel, rfl⟩
theorem dX9_layOverlap_17 : Dn cX9_layOverlap 17 (.getfield 53) 3 20 := ⟨by decide +kernel, rfl⟩
theorem dX9_layOverlap_20 : Dn cX9_layOverlap 20 (.iload_n 1) 1 21 := ⟨by decide +kernel, rfl⟩
theorem dX9_layOverlap_21 : Dn cX9_layOverlap 21 (.iaload) 1 22 := ⟨by decide +kernel, rfl⟩
theorem dX9_layOverlap_22 : Dj cX9_layOverlap 22 .goto (9) 3 25 31 := ⟨by decide +kernel, rfl, by decide⟩
theorem dX9_layOverlap_25 : Dn cX9_layOverlap 25 (.aload_n 0) 1 26 := ⟨by decide +kernel, rfl⟩
theorem dX9_layOverlap_26 : Dn cX9_layOverlap 26 (.getfield 53) 3 29 := ⟨by decide +kernel, rfl⟩
theorem dX9_layOverlap_29 : Dn cX9_layOverlap 29 (.iload_n 2) 1 30 := ⟨by decide +kernel, rfl⟩
theorem dX9_layOverlap_30 : Dn cX9_layOverlap 30 (.iaload) 1 31 := ⟨by decide +kernel, rfl⟩
theorem dX9_layOverlap_31 : Dn cX9_layOverlap 31 (.putfield 161) 3 34 := ⟨by decide +kernel, rfl⟩
theorem dX9_layOverlap_34 : Dn cX9_layOverlap 34 (.aload_n 0) 1 35 := ⟨by decide +kernel, rfl⟩
theorem dX9_layOverlap_35 : Dn cX9_layOverlap 35 (.aload_n 0) 1 36 := ⟨by decide +kernel, rfl⟩
theorem dX9_layOverlap_36 : Dn cX9_layOverlap 36 (.getfield 56) 3 39 := ⟨by decide +kernel, rfl⟩
theorem dX9_layOverlap_39 : Dn cX9_layOverlap 39 (.iload_n 1) 1 40 := ⟨by decide +kernel, rfl⟩
theorem dX9_layOverlap_40 : Dn cX9_layOverlap 40 (.iaload) 1 41 := ⟨by decide +kernel, rfl⟩
theorem dX9_layOverlap_41 : Dn cX9_layOverlap 41 (.aload_n 0) 1 42 := ⟨by decide +kernel, rfl⟩
theorem dX9_layOverlap_42 : Dn cX9_layOverlap 42 (.getfield 56) 3 45 := ⟨by decide +kernel, rfl⟩
theorem dX9_layOverlap_45 : Dn cX9_layOverlap 45 (.iload_n 2) 1 46 := ⟨by decide +kernel, rfl⟩
theorem dX9_layOverlap_46 : Dn cX9_layOverlap 46 (.iaload) 1 47 := ⟨by decide +kernel, rfl⟩
theorem dX9_layOverlap_47 : Dj cX9_layOverlap 47 (fun o => .if_icmp .le o) (12) 3 50 59 := ⟨by decide +kernel, rfl, by decide⟩
theorem dX9_layOverlap_50 : Dn cX9_layOverlap 50 (.aload_n 0) 1 51 := ⟨by decide +kernel, rfl⟩
theorem dX9_layOverlap_51 : Dn cX9_layOverlap 51 (.getfield 56) 3 54 := ⟨by decide +kernel, rfl⟩
theorem dX9_layOverlap_54 : Dn cX9_layOverlap 54 (.iload_n 1) 1 55 := ⟨by decide +kernel, rfl⟩
theorem dX9_layOverlap_55 : Dn cX9_layOverlap 55 (.iaload) 1 56 := ⟨by decide +kernel, rfl⟩
theorem dX9_layOverlap_56 : Dj cX9_layOverlap 56 .goto (9) 3 59 65 := ⟨by decide +kernel, rfl, by decide⟩
theorem dX9_layOverlap_59 : Dn cX9_layOverlap 59 (.aload_n 0) 1 60 := ⟨by decide +kernel, rfl⟩
theorem dX9_layOverlap_60 : Dn cX9_layOverlap 60 (.getfield 56) 3 63 := ⟨by decide +kernel, rfl⟩
theorem dX9_layOverlap_63 : Dn cX9_layOverlap 63 (.iload_n 2) 1 64 := ⟨by decide +kernel, rfl⟩
theorem dX9_layOverlap_64 : Dn cX9_layOverlap 64 (.iaload) 1 65 := ⟨by decide +kernel, rfl⟩
theorem dX9_layOverlap_65 : Dn cX9_layOverlap 65 (.putfield 164) 3 68 := ⟨by decide +kernel, rfl⟩
theorem dX9_layOverlap_68 : Dn cX9_layOverlap 68 (.aload_n 0) 1 69 := ⟨by decide +kernel, rfl⟩
theorem dX9_layOverlap_69 : Dn cX9_layOverlap 69 (.getfield 53) 3 72 := ⟨by decide +kernel, rfl⟩
theorem dX9_layOverlap_72 : Dn cX9_layOverlap 72 (.iload_n 1) 1 73 := ⟨by decide +kernel, rfl⟩
theorem dX9_layOverlap_73 : Dn cX9_layOverlap 73 (.iaload) 1 74 := ⟨by decide +kernel, rfl⟩
theorem dX9_layOverlap_74 : Dn cX9_layOverlap 74 (.aload_n 0) 1 75 := ⟨by decide +kernel, rfl⟩
theorem dX9_layOverlap_75 : Dn cX9_layOverlap 75 (.getfield 7) 3 78 := ⟨by decide +kernel, rfl⟩
theorem dX9_layOverlap_78 : Dn cX9_layOverlap 78 (.iload_n 1) 1 79 := ⟨by decide +kernel, rfl⟩
theorem dX9_layOverlap_79 : Dn cX9_layOverlap 79 (.iaload) 1 80 := ⟨by decide +kernel, rfl⟩
theorem dX9_layOverlap_80 : Dn cX9_layOverlap 80 (.iadd) 1 81 := ⟨by decide +kernel, rfl⟩
theorem dX9_layOverlap_81 : Dn cX9_layOverlap 81 (.istore_n 3) 1 82 := ⟨by decide +kernel, rfl⟩
theorem dX9_layOverlap_82 : Dn cX9_layOverlap 82 (.aload_n 0) 1 83 := ⟨by decide +kernel, rfl⟩
theorem dX9_layOverlap_83 : Dn cX9_layOverlap 83 (.getfield 53) 3 86 := ⟨by decide +kernel, rfl⟩
theorem dX9_layOverlap_86 : Dn cX9_layOverlap 86 (.iload_n 2) 1 87 := ⟨by decide +kernel, rfl⟩
theorem dX9_layOverlap_87 : Dn cX9_layOverlap 87 (.iaload) 1 88 := ⟨by decide +kernel, rfl⟩
theorem dX9_layOverlap_88 : Dn cX9_layOverlap 88 (.aload_n 0) 1 89 := ⟨by decide +kernel, rfl⟩
theorem dX9_layOverlap_89 : Dn cX9_layOverlap 89 (.getfield 7) 3 92 := ⟨by decide +kernel, rfl⟩
theorem dX9_layOverlap_92 : Dn cX9_layOverlap 92 (.iload_n 2) 1 93 := ⟨by decide +kernel, rfl⟩
theorem dX9_layOverlap_93 : Dn cX9_layOverlap 93 (.iaload) 1 94 := ⟨by decide +kernel, rfl⟩
theorem dX9_layOverlap_94 : Dn cX9_layOverlap 94 (.iadd) 1 95 := ⟨by decide +kernel, rfl⟩
theorem dX9_layOverlap_95 : Dn cX9_layOverlap 95 (.istore 4) 2 97 := ⟨by decide +kernel, rfl⟩
theorem dX9_layOverlap_97 : Dn cX9_layOverlap 97 (.aload_n 0) 1 98 := ⟨by decide +kernel, rfl⟩
theorem dX9_layOverlap_98 : Dn cX9_layOverlap 98 (.iload_n 3) 1 99 := ⟨by decide +kernel, rfl⟩
theorem dX9_layOverlap_99 : Dn cX9_layOverlap 99 (.iload 4) 2 101 := ⟨by decide +kernel, rfl⟩
theorem dX9_layOverlap_101 : Dj cX9_layOverlap 101 (fun o => .if_icmp .ge o) (7) 3 104 108 := ⟨by decide +kernel, rfl, by decide⟩
theorem dX9_layOverlap_104 : Dn cX9_layOverlap 104 (.iload_n 3) 1 105 := ⟨by decide +kernel, rfl⟩
theorem dX9_layOverlap_105 : Dj cX9_layOverlap 105 .goto (5) 3 108 110 := ⟨by decide +kernel, rfl, by decide⟩
theorem dX9_layOverlap_108 : Dn cX9_layOverlap 108 (.iload 4) 2 110 := ⟨by decide +kernel, rfl⟩
theorem dX9_layOverlap_110 : Dn cX9_layOverlap 110 (.aload_n 0) 1 111 := ⟨by decide +kernel, rfl⟩
theorem dX9_layOverlap_111 : Dn cX9_layOverlap 111 (.getfield 161) 3 114 := ⟨by decide +kernel, rfl⟩
theorem dX9_layOverlap_114 : Dn cX9_layOverlap 114 (.isub) 1 115 := ⟨by decide +kernel, rfl⟩
theorem dX9_layOverlap_115 : Dn cX9_layOverlap 115 (.putfield 167) 3 118 := ⟨by decide +kernel, rfl⟩
theorem dX9_layOverlap_118 : Dn cX9_layOverlap 118 (.aload_n 0) 1 119 := ⟨by decide +kernel, rfl⟩
theorem dX9_layOverlap_119 : Dn cX9_layOverlap 119 (.getfield 56) 3 122 := ⟨by decide +kernel, rfl⟩
theorem dX9_layOverlap_122 : Dn cX9_layOverlap 122 (.iload_n 1) 1 123 := ⟨by decide +kernel, rfl⟩
theorem dX9_layOverlap_123 : Dn cX9_layOverlap 123 (.iaload) 1 124 := ⟨by decide +kernel, rfl⟩
theorem dX9_layOverlap_124 : Dn cX9_layOverlap 124 (.aload_n 0) 1 125 := ⟨by decide +kernel, rfl⟩
theorem dX9_layOverlap_125 : Dn cX9_layOverlap 125 (.getfield 13) 3 128 := ⟨by decide +kernel, rfl⟩
theorem dX9_layOverlap_128 : Dn cX9_layOverlap 128 (.iload_n 1) 1 129 := ⟨by decide +kernel, rfl⟩
theorem dX9_layOverlap_129 : Dn cX9_layOverlap 129 (.iaload) 1 130 := ⟨by decide +kernel, rfl⟩
theorem dX9_layOverlap_130 : Dn cX9_layOverlap 130 (.iadd) 1 131 := ⟨by decide +kernel, rfl⟩
theorem dX9_layOverlap_131 : Dn cX9_layOverlap 131 (.istore 5) 2 133 := ⟨by decide +kernel, rfl⟩
theorem dX9_layOverlap_133 : Dn cX9_layOverlap 133 (.aload_n 0) 1 134 := ⟨by decide +kernel, rfl⟩
theorem dX9_layOverlap_134 : Dn cX9_layOverlap 134 (.getfield 56) 3 137 := ⟨by decide +kernel, rfl⟩
theorem dX9_layOverlap_137 : Dn cX9_layOverlap 137 (.iload_n 2) 1 138 := ⟨by decide +kernel, rfl⟩
theorem dX9_layOverlap_138 : Dn cX9_layOverlap 138 (.iaload) 1 139 := ⟨by decide +kernel, rfl⟩
theorem dX9_layOverlap_139 : Dn cX9_layOverlap 139 (.aload_n 0) 1 140 := ⟨by decide +kernel, rfl⟩
theorem dX9_layOverlap_140 : Dn cX9_layOverlap 140 (.getfield 13) 3 143 := ⟨by decide +kernel, rfl⟩
theorem dX9_layOverlap_143 : Dn cX9_layOverlap 143 (.iload_n 2) 1 144 := ⟨by decide +kernel, rfl⟩
theorem dX9_layOverlap_144 : Dn cX9_layOverlap 144 (.iaload) 1 145 := ⟨by decide +kernel, rfl⟩
theorem dX9_layOverlap_145 : Dn cX9_layOverlap 145 (.iadd) 1 146 := ⟨by decide +kernel, rfl⟩
theorem dX9_layOverlap_146 : Dn cX9_layOverlap 146 (.istore 6) 2 148 := ⟨by decide +kernel, rfl⟩
theorem dX9_layOverlap_148 : Dn cX9_layOverlap 148 (.aload_n 0) 1 149 := ⟨by decide +kernel, rfl⟩
theorem dX9_layOverlap_149 : Dn cX9_layOverlap 149 (.iload 5) 2 151 := ⟨by decide +kernel, rfl⟩
theorem dX9_layOverlap_151 : Dn cX9_layOverlap 151 (.iload 6) 2 153 := ⟨by decide +kernel, rfl⟩
theorem dX9_layOverlap_153 : Dj cX9_layOverlap 153 (fun o => .if_icmp .ge o) (8) 3 156 161 := ⟨by decide +kernel, rfl, by decide⟩
theorem dX9_layOverlap_156 : Dn cX9_layOverlap 156 (.iload 5) 2 158 := ⟨by decide +kernel, rfl⟩
theorem dX9_layOverlap_158 : Dj cX9_layOverlap 158 .goto (5) 3 161 163 := ⟨by decide +kernel, rfl, by decide⟩
theorem dX9_layOverlap_161 : Dn cX9_layOverlap 161 (.iload 6) 2 163 := ⟨by decide +kernel, rfl⟩
theorem dX9_layOverlap_163 : Dn cX9_layOverlap 163 (.aload_n 0) 1 164 := ⟨by decide +kernel, rfl⟩
theorem dX9_layOverlap_164 : Dn cX9_layOverlap 164 (.getfield 164) 3 167 := ⟨by decide +kernel, rfl⟩
theorem dX9_layOverlap_167 : Dn cX9_layOverlap 167 (.isub) 1 168 := ⟨by decide +kernel, rfl⟩
theorem dX9_layOverlap_168 : Dn cX9_layOverlap 168 (.putfield 170) 3 171 := ⟨by decide +kernel, rfl⟩
theorem dX9_layOverlap_171 : Dn cX9_layOverlap 171 (.aload_n 0) 1 172 := ⟨by decide +kernel, rfl⟩
theorem dX9_layOverlap_172 : Dn cX9_layOverlap 172 (.getfield 167) 3 175 := ⟨by decide +kernel, rfl⟩
theorem dX9_layOverlap_175 : Dj cX9_layOverlap 175 (fun o => .ifCond .le o) (10) 3 178 185 := ⟨by decide +kernel, rfl, by decide⟩
theorem dX9_layOverlap_178 : Dn cX9_layOverlap 178 (.aload_n 0) 1 179 := ⟨by decide +kernel, rfl⟩
theorem dX9_layOverlap_179 : Dn cX9_layOverlap 179 (.getfield 170) 3 182 := ⟨by decide +kernel, rfl⟩
theorem dX9_layOverlap_182 : Dj cX9_layOverlap 182 (fun o => .ifCond .gt o) (23) 3 185 205 := ⟨by decide +kernel, rfl, by decide⟩
theorem dX9_layOverlap_185 : Dn cX9_layOverlap 185 (.aload_n 0) 1 186 := ⟨by decide +kernel, rfl⟩
theorem dX9_layOverlap_186 : Dn cX9_layOverlap 186 (.iconst 0) 1 187 := ⟨by decide +kernel, rfl⟩
theorem dX9_layOverlap_187 : Dn cX9_layOverlap 187 (.putfield 161) 3 190 := ⟨by decide +kernel, rfl⟩
theorem dX9_layOverlap_190 : Dn cX9_layOverlap 190 (.aload_n 0) 1 191 := ⟨by decide +kernel, rfl⟩
theorem dX9_layOverlap_191 : Dn cX9_layOverlap 191 (.iconst 0) 1 192 := ⟨by decide +kernel, rfl⟩
theorem dX9_layOverlap_192 : Dn cX9_layOverlap 192 (.putfield 164) 3 195 := ⟨by decide +kernel, rfl⟩
theorem dX9_layOverlap_195 : Dn cX9_layOverlap 195 (.aload_n 0) 1 196 := ⟨by decide +kernel, rfl⟩
theorem dX9_layOverlap_196 : Dn cX9_layOverlap 196 (.iconst 0) 1 197 := ⟨by decide +kernel, rfl⟩
theorem dX9_layOverlap_197 : Dn cX9_layOverlap 197 (.putfield 167) 3 200 := ⟨by decide +kernel, rfl⟩
theorem dX9_layOverlap_200 : Dn cX9_layOverlap 200 (.aload_n 0) 1 201 := ⟨by decide +kernel, rfl⟩
theorem dX9_layOverlap_201 : Dn cX9_layOverlap 201 (.iconst 0) 1 202 := ⟨by decide +kernel, rfl⟩
theorem dX9_layOverlap_202 : Dn cX9_layOverlap 202 (.putfield 170) 3 205 := ⟨by decide +kernel, rfl⟩
theorem dX9_layOverlap_205 : Dn cX9_layOverlap 205 (.return_) 1 206 := ⟨by decide +kernel, rfl⟩
theorem dX9_barsOverlap_0 : Dn cX9_barsOverlap 0 (.aload_n 0) 1 1 := ⟨by decide +kernel, rfl⟩
theorem dX9_barsOverlap_1 : Dn cX9_barsOverlap 1 (.iload_n 1) 1 2 := ⟨by decide +kernel, rfl⟩
theorem dX9_barsOverlap_2 : Dn cX9_barsOverlap 2 (.iload_n 2) 1 3 := ⟨by decide +kernel, rfl⟩
theorem dX9_barsOverlap_3 : Dn cX9_barsOverlap 3 (.invokevirtual 157) 3 6 := ⟨by decide +kernel, rfl⟩
theorem dX9_barsOverlap_6 : Dj cX9_barsOverlap 6 (fun o => .ifCond .ne o) (5) 3 9 11 := ⟨by decide +kernel, rfl, by decide⟩
theorem dX9_barsOverlap_9 : Dn cX9_barsOverlap 9 (.iconst (-1)) 1 10 := ⟨by decide +kernel, rfl⟩
theorem dX9_barsOverlap_10 : Dn cX9_barsOverlap 10 (.ireturn) 1 11 := ⟨by decide +kernel, rfl⟩
theorem dX9_barsOverlap_11 : Dn cX9_barsOverlap 11 (.iload_n 3) 1 12 := ⟨by decide +kernel, rfl⟩
theorem dX9_barsOverlap_12 : Dj cX9_barsOverlap 12 (fun o => .ifCond .ne o) (6) 3 15 18 := ⟨by decide +kernel, rfl, by decide⟩
theorem dX9_barsOverlap_15 : Dn cX9_barsOverlap 15 (.bipush (-2)) 2 17 := ⟨by decide +kernel, rfl⟩
theorem dX9_barsOverlap_17 : Dn cX9_barsOverlap 17 (.ireturn) 1 18 := ⟨by decide +kernel, rfl⟩
theorem dX9_barsOverlap_18 : Dn cX9_barsOverlap 18 (.aload_n 0) 1 19 := ⟨by decide +kernel, rfl⟩
theorem dX9_barsOverlap_19 : Dn cX9_barsOverlap 19 (.invokevirtual 150) 3 22 := ⟨by decide +kernel, rfl⟩
theorem dX9_barsOverlap_22 : Dn cX9_barsOverlap 22 (.aload_n 0) 1 23 := ⟨by decide +kernel, rfl⟩
theorem dX9_barsOverlap_23 : Dn cX9_barsOverlap 23 (.getfield 62) 3 26 := ⟨by decide +kernel, rfl⟩
theorem dX9_barsOverlap_26 : Dn cX9_barsOverlap 26 (.iload_n 1) 1 27 := ⟨by decide +kernel, rfl⟩
theorem dX9_barsOverlap_27 : Dn cX9_barsOverlap 27 (.iaload) 1 28 := ⟨by decide +kernel, rfl⟩
theorem dX9_barsOverlap_28 : Dj cX9_barsOverlap 28 (fun o => .ifCond .lt o) (12) 3 31 40 := ⟨by decide +kernel, rfl, by decide⟩
theorem dX9_barsOverlap_31 : Dn cX9_barsOverlap 31 (.aload_n 0) 1 32 := ⟨by decide +kernel, rfl⟩
theorem dX9_barsOverlap_32 : Dn cX9_barsOverlap 32 (.getfield 62) 3 35 := ⟨by decide +kernel, rfl⟩
theorem dX9_barsOverlap_35 : Dn cX9_barsOverlap 35 (.iload_n 2) 1 36 := ⟨by decide +kernel, rfl⟩
theorem dX9_barsOverlap_36 : Dn cX9_barsOverlap 36 (.iaload) 1 37 := ⟨by decide +kernel, rfl⟩
theorem dX9_barsOverlap_37 : Dj cX9_barsOverlap 37 (fun o => .ifCond .ge o) (6) 3 40 43 := ⟨by decide +kernel, rfl, by decide⟩
theorem dX9_barsOverlap_40 : Dn cX9_barsOverlap 40 (.bipush (-5)) 2 42 := ⟨by decide +kernel, rfl⟩
theorem dX9_barsOverlap_42 : Dn cX9_barsOverlap 42 (.ireturn) 1 43 := ⟨by decide +kernel, rfl⟩
theorem dX9_barsOverlap_43 : Dn cX9_barsOverlap 43 (.aload_n 0) 1 44 := ⟨by decide +kernel, rfl⟩
theorem dX9_barsOverlap_44 : Dn cX9_barsOverlap 44 (.iload_n 1) 1 45 := ⟨by decide +kernel, rfl⟩
theorem dX9_barsOverlap_45 : Dn cX9_barsOverlap 45 (.iload_n 2) 1 46 := ⟨by decide +kernel, rfl⟩
theorem dX9_barsOverlap_46 : Dn cX9_barsOverlap 46 (.invokevirtual 173) 3 49 := ⟨by decide +kernel, rfl⟩
theorem dX9_barsOverlap_49 : Dn cX9_barsOverlap 49 (.iconst 0) 1 50 := ⟨by decide +kernel, rfl⟩
theorem dX9_barsOverlap_50 : Dn cX9_barsOverlap 50 (.ireturn) 1 51 := ⟨by decide +kernel, rfl⟩
theorem dX9_overlap_0 : Dn cX9_overlap 0 (.aload_n 0) 1 1 := ⟨by decide +kernel, rfl⟩
theorem dX9_overlap_1 : Dn cX9_overlap 1 (.iload_n 1) 1 2 := ⟨by decide +kernel, rfl⟩
theorem dX9_overlap_2 : Dn cX9_overlap 2 (.iload_n 2) 1 3 := ⟨by decide +kernel, rfl⟩
theorem dX9_overlap_3 : Dn cX9_overlap 3 (.iload_n 3) 1 4 := ⟨by decide +kernel, rfl⟩
theorem dX9_overlap_4 : Dn cX9_overlap 4 (.iconst 0) 1 5 := ⟨by decide +kernel, rfl⟩
theorem dX9_overlap_5 : Dn cX9_overlap 5 (.iconst 3) 1 6 := ⟨by decide +kernel, rfl⟩
theorem dX9_overlap_6 : Dn cX9_overlap 6 (.invokestatic 71) 3 9 := ⟨by decide +kernel, rfl⟩
theorem dX9_overlap_9 : Dn cX9_overlap 9 (.invokevirtual 176) 3 12 := ⟨by decide +kernel, rfl⟩
theorem dX9_overlap_12 : Dn cX9_overlap 12 (.istore 4) 2 14 := ⟨by decide +kernel, rfl⟩
theorem dX9_overlap_14 : Dn cX9_overlap 14 (.iload 4) 2 16 := ⟨by decide +kernel, rfl⟩
theorem dX9_overlap_16 : Dj cX9_overlap 16 (fun o => .ifCond .ge o) (11) 3 19 27 := ⟨by decide +kernel, rfl, by decide⟩
theorem dX9_overlap_19 : Dn cX9_overlap 19 (.ldc 180) 2 21 := ⟨by decide +kernel, rfl⟩
theorem dX9_overlap_21 : Dn cX9_overlap 21 (.iload 4) 2 23 := ⟨by decide +kernel, rfl⟩
theorem dX9_overlap_23 : Dn cX9_overlap 23 (.iadd) 1 24 := ⟨by decide +kernel, rfl⟩
theorem dX9_overlap_24 : Dj cX9_overlap 24 .goto (42) 3 27 66 := ⟨by decide +kernel, rfl, by decide⟩
theorem dX9_overlap_27 : Dn cX9_overlap 27 (.iload_n 3) 1 28 := ⟨by decide +kernel, rfl⟩
theorem dX9_overlap_28 : Dj cX9_overlap 28 (fun o => .ifCond .ne o) (10) 3 31 38 := ⟨by decide +kernel, rfl, by decide⟩
theorem dX9_overlap_31 : Dn cX9_overlap 31 (.aload_n 0) 1 32 := ⟨by decide +kernel, rfl⟩
theorem dX9_overlap_32 : Dn cX9_overlap 32 (.getfield 161) 3 35 := ⟨by decide +kernel, rfl⟩
theorem dX9_overlap_35 : Dj cX9_overlap 35 .goto (31) 3 38 66 := ⟨by decide +kernel, rfl, by decide⟩
theorem dX9_overlap_38 : Dn cX9_overlap 38 (.iload_n 3) 1 39 := ⟨by decide +kernel, rfl⟩
theorem dX9_overlap_39 : Dn cX9_overlap 39 (.iconst 1) 1 40 := ⟨by decide +kernel, rfl⟩
theorem dX9_overlap_40 : Dj cX9_overlap 40 (fun o => .if_icmp .ne o) (10) 3 43 50 := ⟨by decide +kernel, rfl, by decide⟩
theorem dX9_overlap_43 : Dn cX9_overlap 43 (.aload_n 0) 1 44 := ⟨by decide +kernel, rfl⟩
theorem dX9_overlap_44 : Dn cX9_overlap 44 (.getfield 164) 3 47 := ⟨by decide +kernel, rfl⟩
theorem dX9_overlap_47 : Dj cX9_overlap 47 .goto (19) 3 50 66 := ⟨by decide +kernel, rfl, by decide⟩
theorem dX9_overlap_50 : Dn cX9_overlap 50 (.iload_n 3) 1 51 := ⟨by decide +kernel, rfl⟩
theorem dX9_overlap_51 : Dn cX9_overlap 51 (.iconst 2) 1 52 := ⟨by decide +kernel, rfl⟩
theorem dX9_overlap_52 : Dj cX9_overlap 52 (fun o => .if_icmp .ne o) (10) 3 55 62 := ⟨by decide +kernel, rfl, by decide⟩
theorem dX9_overlap_55 : Dn cX9_overlap 55 (.aload_n 0) 1 56 := ⟨by decide +kernel, rfl⟩
theorem dX9_overlap_56 : Dn cX9_overlap 56 (.getfield 167) 3 59 := ⟨by decide +kernel, rfl⟩
theorem dX9_overlap_59 : Dj cX9_overlap 59 .goto (7) 3 62 66 := ⟨by decide +kernel, rfl, by decide⟩
theorem dX9_overlap_62 : Dn cX9_overlap 62 (.aload_n 0) 1 63 := ⟨by decide +kernel, rfl⟩
theorem dX9_overlap_63 : Dn cX9_overlap 63 (.getfield 170) 3 66 := ⟨by decide +kernel, rfl⟩
theorem dX9_overlap_66 : Dn cX9_overlap 66 (.ireturn) 1 67 := ⟨by decide +kernel, rfl⟩
theorem dX9_dotOver_0 : Dn cX9_dotOver 0 (.aload_n 0) 1 1 := ⟨by decide +kernel, rfl⟩
theorem dX9_dotOver_1 : Dn cX9_dotOver 1 (.iload_n 1) 1 2 := ⟨by decide +kernel, rfl⟩
theorem dX9_dotOver_2 : Dn cX9_dotOver 2 (.aload_n 0) 1 3 := ⟨by decide +kernel, rfl⟩
theorem dX9_dotOver_3 : Dn cX9_dotOver 3 (.getfield 161) 3 6 := ⟨by decide +kernel, rfl⟩
theorem dX9_dotOver_6 : Dn cX9_dotOver 6 (.iload_n 2) 1 7 := ⟨by decide +kernel, rfl⟩
theorem dX9_dotOver_7 : Dn cX9_dotOver 7 (.iadd) 1 8 := ⟨by decide +kernel, rfl⟩
theorem dX9_dotOver_8 : Dn cX9_dotOver 8 (.aload_n 0) 1 9 := ⟨by decide +kernel, rfl⟩
theorem dX9_dotOver_9 : Dn cX9_dotOver 9 (.getfield 53) 3 12 := ⟨by decide +kernel, rfl⟩
theorem dX9_dotOver_12 : Dn cX9_dotOver 12 (.iload_n 1) 1 13 := ⟨by decide +kernel, rfl⟩
theorem dX9_dotOver_13 : Dn cX9_dotOver 13 (.iaload) 1 14 := ⟨by decide +kernel, rfl⟩
theorem dX9_dotOver_14 : Dn cX9_dotOver 14 (.isub) 1 15 := ⟨by decide +kernel, rfl⟩
theorem dX9_dotOver_15 : Dn cX9_dotOver 15 (.aload_n 0) 1 16 := ⟨by decide +kernel, rfl⟩
theorem dX9_dotOver_16 : Dn cX9_dotOver 16 (.getfield 164) 3 19 := ⟨by decide +kernel, rfl⟩
theorem dX9_dotOver_19 : Dn cX9_dotOver 19 (.iload_n 3) 1 20 := ⟨by decide +kernel, rfl⟩
theorem dX9_dotOver_20 : Dn cX9_dotOver 20 (.iadd) 1 21 := ⟨by decide +kernel, rfl⟩
theorem dX9_dotOver_21 : Dn cX9_dotOver 21 (.aload_n 0) 1 22 := ⟨by decide +kernel, rfl⟩
theorem dX9_dotOver_22 : Dn cX9_dotOver 22 (.getfield 56) 3 25 := ⟨by decide +kernel, rfl⟩
theorem dX9_dotOver_25 : Dn cX9_dotOver 25 (.iload_n 1) 1 26 := ⟨by decide +kernel, rfl⟩
theorem dX9_dotOver_26 : Dn cX9_dotOver 26 (.iaload) 1 27 := ⟨by decide +kernel, rfl⟩
theorem dX9_dotOver_27 : Dn cX9_dotOver 27 (.isub) 1 28 := ⟨by decide +kernel, rfl⟩
theorem dX9_dotOver_28 : Dn cX9_dotOver 28 (.invokevirtual 99) 3 31 := ⟨by decide +kernel, rfl⟩
theorem dX9_dotOver_31 : Dn cX9_dotOver 31 (.ireturn) 1 32 := ⟨by decide +kernel, rfl⟩
theorem dX9_lights_0 : Dn cX9_lights 0 (.aload_n 0) 1 1 := ⟨by decide +kernel, rfl⟩
theorem dX9_lights_1 : Dn cX9_lights 1 (.iload_n 1) 1 2 := ⟨by decide +kernel, rfl⟩
theorem dX9_lights_2 : Dn cX9_lights 2 (.iload_n 2) 1 3 := ⟨by decide +kernel, rfl⟩
theorem dX9_lights_3 : Dn cX9_lights 3 (.iload_n 3) 1 4 := ⟨by decide +kernel, rfl⟩
theorem dX9_lights_4 : Dn cX9_lights 4 (.iconst 0) 1 5 := ⟨by decide +kernel, rfl⟩
theorem dX9_lights_5 : Dn cX9_lights 5 (.iconst 2) 1 6 := ⟨by decide +kernel, rfl⟩
theorem dX9_lights_6 : Dn cX9_lights 6 (.invokestatic 71) 3 9 := ⟨by decide +kernel, rfl⟩
theorem dX9_lights_9 : Dn cX9_lights 9 (.invokevirtual 176) 3 12 := ⟨by decide +kernel, rfl⟩
theorem dX9_lights_12 : Dn cX9_lights 12 (.istore 4) 2 14 := ⟨by decide +kernel, rfl⟩
theorem dX9_lights_14 : Dn cX9_lights 14 (.iload 4) 2 16 := ⟨by decide +kernel, rfl⟩
theorem dX9_lights_16 : Dj cX9_lights 16 (fun o => .ifCond .ge o) (9) 3 19 25 := ⟨by decide +kernel, rfl, by decide⟩
theorem dX9_lights_19 : Dn cX9_lights 19 (.ldc 180) 2 21 := ⟨by decide +kernel, rfl⟩
theorem dX9_lights_21 : Dn cX9_lights 21 (.iload 4) 2 23 := ⟨by decide +kernel, rfl⟩
theorem dX9_lights_23 : Dn cX9_lights 23 (.iadd) 1 24 := ⟨by decide +kernel, rfl⟩
theorem dX9_lights_24 : Dn cX9_lights 24 (.ireturn) 1 25 := ⟨by decide +kernel, rfl⟩
theorem dX9_lights_25 : Dn cX9_lights 25 (.iconst 0) 1 26 := ⟨by decide +kernel, rfl⟩
theorem dX9_lights_26 : Dn cX9_lights 26 (.istore 5) 2 28 := ⟨by decide +kernel, rfl⟩
theorem dX9_lights_28 : Dn cX9_lights 28 (.iconst 0) 1 29 := ⟨by decide +kernel, rfl⟩
theorem dX9_lights_29 : Dn cX9_lights 29 (.istore 6) 2 31 := ⟨by decide +kernel, rfl⟩
theorem dX9_lights_31 : Dn cX9_lights 31 (.iload 6) 2 33 := ⟨by decide +kernel, rfl⟩
theorem dX9_lights_33 : Dn cX9_lights 33 (.aload_n 0) 1 34 := ⟨by decide +kernel, rfl⟩
theorem dX9_lights_34 : Dn cX9_lights 34 (.getfield 167) 3 37 := ⟨by decide +kernel, rfl⟩
theorem dX9_lights_37 : Dn cX9_lights 37 (.aload_n 0) 1 38 := ⟨by decide +kernel, rfl⟩
theorem dX9_lights_38 : Dn cX9_lights 38 (.getfield 170) 3 41 := ⟨by decide +kernel, rfl⟩
theorem dX9_lights_41 : Dn cX9_lights 41 (.imul) 1 42 := ⟨by decide +kernel, rfl⟩
theorem dX9_lights_42 : Dj cX9_lights 42 (fun o => .if_icmp .ge o) (90) 3 45 132 := ⟨by decide +kernel, rfl, by decide⟩
theorem dX9_lights_45 : Dn cX9_lights 45 (.aload_n 0) 1 46 := ⟨by decide +kernel, rfl⟩
theorem dX9_lights_46 : Dn cX9_lights 46 (.iload_n 1) 1 47 := ⟨by decide +kernel, rfl⟩
theorem dX9_lights_47 : Dn cX9_lights 47 (.iload 6) 2 49 := ⟨by decide +kernel, rfl⟩
theorem dX9_lights_49 : Dn cX9_lights 49 (.aload_n 0) 1 50 := ⟨by decide +kernel, rfl⟩
theorem dX9_lights_50 : Dn cX9_lights 50 (.getfield 167) 3 53 := ⟨by decide +kernel, rfl⟩
theorem dX9_lights_53 : Dn cX9_lights 53 (.irem) 1 54 := ⟨by decide +kernel, rfl⟩
theorem dX9_lights_54 : Dn cX9_lights 54 (.iload 6) 2 56 := ⟨by decide +kernel, rfl⟩
theorem dX9_lights_56 : Dn cX9_lights 56 (.aload_n 0) 1 57 := ⟨by decide +kernel, rfl⟩
theorem dX9_lights_57 : Dn cX9_lights 57 (.getfield 167) 3 60 := ⟨by decide +kernel, rfl⟩
theorem dX9_lights_60 : Dn cX9_lights 60 (.idiv) 1 61 := ⟨by decide +kernel, rfl⟩
theorem dX9_lights_61 : Dn cX9_lights 61 (.invokevirtual 181) 3 64 := ⟨by decide +kernel, rfl⟩
theorem dX9_lights_64 : Dn cX9_lights 64 (.istore 7) 2 66 := ⟨by decide +kernel, rfl⟩
theorem dX9_lights_66 : Dn cX9_lights 66 (.aload_n 0) 1 67 := ⟨by decide +kernel, rfl⟩
theorem dX9_lights_67 : Dn cX9_lights 67 (.iload_n 2) 1 68 := ⟨by decide +kernel, rfl⟩
theorem dX9_lights_68 : Dn cX9_lights 68 (.iload 6) 2 70 := ⟨by decide +kernel, rfl⟩
theorem dX9_lights_70 : Dn cX9_lights 70 (.aload_n 0) 1 71 := ⟨by decide +kernel, rfl⟩
theorem dX9_lights_71 : Dn cX9_lights 71 (.getfield 167) 3 74 := ⟨by decide +kernel, rfl⟩
theorem dX9_lights_74 : Dn cX9_lights 74 (.irem) 1 75 := ⟨by decide +kernel, rfl⟩
theorem dX9_lights_75 : Dn cX9_lights 75 (.iload 6) 2 77 := ⟨by decide +kernel, rfl⟩
theorem dX9_lights_77 : Dn cX9_lights 77 (.aload_n 0) 1 78 := ⟨by decide +kernel, rfl⟩
theorem dX9_lights_78 : Dn cX9_lights 78 (.getfield 167) 3 81 := ⟨by decide +kernel, rfl⟩
theorem dX9_lights_81 : Dn cX9_lights 81 (.idiv) 1 82 := ⟨by decide +kernel, rfl⟩
theorem dX9_lights_82 : Dn cX9_lights 82 (.invokevirtual 181) 3 85 := ⟨by decide +kernel, rfl⟩
theorem dX9_lights_85 : Dn cX9_lights 85 (.istore 8) 2 87 := ⟨by decide +kernel, rfl⟩
theorem dX9_lights_87 : Dn cX9_lights 87 (.iload 5) 2 89 := ⟨by decide +kernel, rfl⟩
theorem dX9_lights_89 : Dn cX9_lights 89 (.iload 7) 2 91 := ⟨by decide +kernel, rfl⟩
theorem dX9_lights_91 : Dj cX9_lights 91 (fun o => .ifCond .lt o) (8) 3 94 99 := ⟨by decide +kernel, rfl, by decide⟩
theorem dX9_lights_94 : Dn cX9_lights 94 (.iload 8) 2 96 := ⟨by decide +kernel, rfl⟩
theorem dX9_lights_96 : Dj cX9_lights 96 (fun o => .ifCond .ge o) (7) 3 99 103 := ⟨by decide +kernel, rfl, by decide⟩
theorem dX9_lights_99 : Dn cX9_lights 99 (.iconst 0) 1 100 := ⟨by decide +kernel, rfl⟩
theorem dX9_lights_100 : Dj cX9_lights 100 .goto (23) 3 103 123 := ⟨by decide +kernel, rfl, by decide⟩
theorem dX9_lights_103 : Dn cX9_lights 103 (.iload_n 3) 1 104 := ⟨by decide +kernel, rfl⟩
theorem dX9_lights_104 : Dj cX9_lights 104 (fun o => .ifCond .ne o) (8) 3 107 112 := ⟨by decide +kernel, rfl, by decide⟩
theorem dX9_lights_107 : Dn cX9_lights 107 (.iload 7) 2 109 := ⟨by decide +kernel, rfl⟩
theorem dX9_lights_109 : Dj cX9_lights 109 .goto (14) 3 112 123 := ⟨by decide +kernel, rfl, by decide⟩
theorem dX9_lights_112 : Dn cX9_lights 112 (.iload_n 3) 1 113 := ⟨by decide +kernel, rfl⟩
theorem dX9_lights_113 : Dn cX9_lights 113 (.iconst 1) 1 114 := ⟨by decide +kernel, rfl⟩
theorem dX9_lights_114 : Dj cX9_lights 114 (fun o => .if_icmp .ne o) (8) 3 117 122 := ⟨by decide +kernel, rfl, by decide⟩
theorem dX9_lights_117 : Dn cX9_lights 117 (.iload 8) 2 119 := ⟨by decide +kernel, rfl⟩
theorem dX9_lights_119 : Dj cX9_lights 119 .goto (4) 3 122 123 := ⟨by decide +kernel, rfl, by decide⟩
theorem dX9_lights_122 : Dn cX9_lights 122 (.iconst 1) 1 123 := ⟨by decide +kernel, rfl⟩
theorem dX9_lights_123 : Dn cX9_lights 123 (.iadd) 1 124 := ⟨by decide +kernel, rfl⟩
theorem dX9_lights_124 : Dn cX9_lights 124 (.istore 5) 2 126 := ⟨by decide +kernel, rfl⟩
theorem dX9_lights_126 : Dn cX9_lights 126 (.iinc 6 1) 3 129 := ⟨by decide +kernel, rfl⟩
theorem dX9_lights_129 : Dj cX9_lights 129 .goto (-98) 3 132 31 := ⟨by decide +kernel, rfl, by decide⟩
theorem dX9_lights_132 : Dn cX9_lights 132 (.iload 5) 2 134 := ⟨by decide +kernel, rfl⟩
theorem dX9_lights_134 : Dn cX9_lights 134 (.ireturn) 1 135 := ⟨by decide +kernel, rfl⟩
theorem dX9_leastAt_0 : Dn cX9_leastAt 0 (.iload_n 2) 1 1 := ⟨by decide +kernel, rfl⟩
theorem dX9_leastAt_1 : Dn cX9_leastAt 1 (.iconst 0) 1 2 := ⟨by decide +kernel, rfl⟩
theorem dX9_leastAt_2 : Dn cX9_leastAt 2 (.aload_n 0) 1 3 := ⟨by decide +kernel, rfl⟩
theorem dX9_leastAt_3 : Dn cX9_leastAt 3 (.getfield 167) 3 6 := ⟨by decide +kernel, rfl⟩
theorem dX9_leastAt_6 : Dn cX9_leastAt 6 (.iconst 1) 1 7 := ⟨by decide +kernel, rfl⟩
theorem dX9_leastAt_7 : Dn cX9_leastAt 7 (.isub) 1 8 := ⟨by decide +kernel, rfl⟩
theorem dX9_leastAt_8 : Dn cX9_leastAt 8 (.invokestatic 71) 3 11 := ⟨by decide +kernel, rfl⟩
theorem dX9_leastAt_11 : Dj cX9_leastAt 11 (fun o => .ifCond .eq o) (17) 3 14 28 := ⟨by decide +kernel, rfl, by decide⟩
theorem dX9_leastAt_14 : Dn cX9_leastAt 14 (.aload_n 0) 1 15 := ⟨by decide +kernel, rfl⟩
theorem dX9_leastAt_15 : Dn cX9_leastAt 15 (.getfield 65) 3 18 := ⟨by decide +kernel, rfl⟩
theorem dX9_leastAt_18 : Dn cX9_leastAt 18 (.bipush 20) 2 20 := ⟨by decide +kernel, rfl⟩
theorem dX9_leastAt_20 : Dn cX9_leastAt 20 (.iload_n 1) 1 21 := ⟨by decide +kernel, rfl⟩
theorem dX9_leastAt_21 : Dn cX9_leastAt 21 (.imul) 1 22 := ⟨by decide +kernel, rfl⟩
theorem dX9_leastAt_22 : Dn cX9_leastAt 22 (.iload_n 2) 1 23 := ⟨by decide +kernel, rfl⟩
theorem dX9_leastAt_23 : Dn cX9_leastAt 23 (.iadd) 1 24 := ⟨by decide +kernel, rfl⟩
theorem dX9_leastAt_24 : Dn cX9_leastAt 24 (.iaload) 1 25 := ⟨by decide +kernel, rfl⟩
theorem dX9_leastAt_25 : Dj cX9_leastAt 25 .goto (4) 3 28 29 := ⟨by decide +kernel, rfl, by decide⟩
theorem dX9_leastAt_28 : Dn cX9_leastAt 28 (.iconst (-1)) 1 29 := ⟨by decide +kernel, rfl⟩
theorem dX9_leastAt_29 : Dn cX9_leastAt 29 (.ireturn) 1 30 := ⟨by decide +kernel, rfl⟩
theorem dX9_below_0 : Dn cX9_below 0 (.bipush (-6)) 2 2 := ⟨by decide +kernel, rfl⟩
theorem dX9_below_2 : Dn cX9_below 2 (.istore_n 3) 1 3 := ⟨by decide +kernel, rfl⟩
theorem dX9_below_3 : Dn cX9_below 3 (.iload_n 2) 1 4 := ⟨by decide +kernel, rfl⟩
theorem dX9_below_4 : Dn cX9_below 4 (.iconst 1) 1 5 := ⟨by decide +kernel, rfl⟩
theorem dX9_below_5 : Dn cX9_below 5 (.isub) 1 6 := ⟨by decide +kernel, rfl⟩
theorem dX9_below_6 : Dn cX9_below 6 (.istore 4) 2 8 := ⟨by decide +kernel, rfl⟩
theorem dX9_below_8 : Dn cX9_below 8 (.iload 4) 2 10 := ⟨by decide +kernel, rfl⟩
theorem dX9_below_10 : Dn cX9_below 10 (.iload_n 2) 1 11 := ⟨by decide +kernel, rfl⟩
theorem dX9_below_11 : Dn cX9_below 11 (.iconst 1) 1 12 := ⟨by decide +kernel, rfl⟩
theorem dX9_below_12 : Dn cX9_below 12 (.iadd) 1 13 := ⟨by decide +kernel, rfl⟩
theorem dX9_below_13 : Dj cX9_below 13 (fun o => .if_icmp .gt o) (51) 3 16 64 := ⟨by decide +kernel, rfl, by decide⟩
theorem dX9_below_16 : Dn cX9_below 16 (.aload_n 0) 1 17 := ⟨by decide +kernel, rfl⟩
theorem dX9_below_17 : Dn cX9_below 17 (.iload_n 1) 1 18 := ⟨by decide +kernel, rfl⟩
theorem dX9_below_18 : Dn cX9_below 18 (.iconst 1) 1 19 := ⟨by decide +kernel, rfl⟩
theorem dX9_below_19 : Dn cX9_below 19 (.iadd) 1 20 := ⟨by decide +kernel, rfl⟩
theorem dX9_below_20 : Dn cX9_below 20 (.iload 4) 2 22 := ⟨by decide +kernel, rfl⟩
theorem dX9_below_22 : Dn cX9_below 22 (.invokevirtual 184) 3 25 := ⟨by decide +kernel, rfl⟩
theorem dX9_below_25 : Dn cX9_below 25 (.istore 5) 2 27 := ⟨by decide +kernel, rfl⟩
theorem dX9_below_27 : Dn cX9_below 27 (.iload 5) 2 29 := ⟨by decide +kernel, rfl⟩
theorem dX9_below_29 : Dj cX9_below 29 (fun o => .ifCond .lt o) (27) 3 32 56 := ⟨by decide +kernel, rfl, by decide⟩
theorem dX9_below_32 : Dn cX9_below 32 (.iload_n 3) 1 33 := ⟨by decide +kernel, rfl⟩
theorem dX9_below_33 : Dn cX9_below 33 (.bipush (-6)) 2 35 := ⟨by decide +kernel, rfl⟩
theorem dX9_below_35 : Dj cX9_below 35 (fun o => .if_icmp .eq o) (16) 3 38 51 := ⟨by decide +kernel, rfl, by decide⟩
theorem dX9_below_38 : Dn cX9_below 38 (.iload 5) 2 40 := ⟨by decide +kernel, rfl⟩
theorem dX9_below_40 : Dn cX9_below 40 (.aload_n 0) 1 41 := ⟨by decide +kernel, rfl⟩
theorem dX9_below_41 : Dn cX9_below 41 (.iload_n 1) 1 42 := ⟨by decide +kernel, rfl⟩
theorem dX9_below_42 : Dn cX9_below 42 (.iconst 1) 1 43 := ⟨by decide +kernel, rfl⟩
theorem dX9_below_43 : Dn cX9_below 43 (.iadd) 1 44 := ⟨by decide +kernel, rfl⟩
theorem dX9_below_44 : Dn cX9_below 44 (.iload_n 3) 1 45 := ⟨by decide +kernel, rfl⟩
theorem dX9_below_45 : Dn cX9_below 45 (.invokevirtual 184) 3 48 := ⟨by decide +kernel, rfl⟩
theorem dX9_below_48 : Dj cX9_below 48 (fun o => .if_icmp .ge o) (8) 3 51 56 := ⟨by decide +kernel, rfl, by decide⟩
theorem dX9_below_51 : Dn cX9_below 51 (.iload 4) 2 53 := ⟨by decide +kernel, rfl⟩
theorem dX9_below_53 : Dj cX9_below 53 .goto (4) 3 56 57 := ⟨by decide +kernel, rfl, by decide⟩
theorem dX9_below_56 : Dn cX9_below 56 (.iload_n 3) 1 57 := ⟨by decide +kernel, rfl⟩
theorem dX9_below_57 : Dn cX9_below 57 (.istore_n 3) 1 58 := ⟨by decide +kernel, rfl⟩
theorem dX9_below_58 : Dn cX9_below 58 (.iinc 4 1) 3 61 := ⟨by decide +kernel, rfl⟩
theorem dX9_below_61 : Dj cX9_below 61 .goto (-53) 3 64 8 := ⟨by decide +kernel, rfl, by decide⟩
theorem dX9_below_64 : Dn cX9_below 64 (.iload_n 3) 1 65 := ⟨by decide +kernel, rfl⟩
theorem dX9_below_65 : Dn cX9_below 65 (.ireturn) 1 66 := ⟨by decide +kernel, rfl⟩
theorem dX9_seam_0 : Dn cX9_seam 0 (.aload_n 0) 1 1 := ⟨by decide +kernel, rfl⟩
theorem dX9_seam_1 : Dn cX9_seam 1 (.iload_n 1) 1 2 := ⟨by decide +kernel, rfl⟩
theorem dX9_seam_2 : Dn cX9_seam 2 (.iload_n 2) 1 3 := ⟨by decide +kernel, rfl⟩
theorem dX9_seam_3 : Dn cX9_seam 3 (.iconst 1) 1 4 := ⟨by decide +kernel, rfl⟩
theorem dX9_seam_4 : Dn cX9_seam 4 (.invokevirtual 176) 3 7 := ⟨by decide +kernel, rfl⟩
theorem dX9_seam_7 : Dn cX9_seam 7 (.istore 4) 2 9 := ⟨by decide +kernel, rfl⟩
theorem dX9_seam_9 : Dn cX9_seam 9 (.iload 4) 2 11 := ⟨by decide +kernel, rfl⟩
theorem dX9_seam_11 : Dj cX9_seam 11 (fun o => .ifCond .ge o) (6) 3 14 17 := ⟨by decide +kernel, rfl, by decide⟩
theorem dX9_seam_14 : Dn cX9_seam 14 (.iload 4) 2 16 := ⟨by decide +kernel, rfl⟩
theorem dX9_seam_16 : Dn cX9_seam 16 (.ireturn) 1 17 := ⟨by decide +kernel, rfl⟩
theorem dX9_seam_17 : Dn cX9_seam 17 (.aload_n 0) 1 18 := ⟨by decide +kernel, rfl⟩
theorem dX9_seam_18 : Dn cX9_seam 18 (.getfield 167) 3 21 := ⟨by decide +kernel, rfl⟩
theorem dX9_seam_21 : Dj cX9_seam 21 (fun o => .ifCond .eq o) (17) 3 24 38 := ⟨by decide +kernel, rfl, by decide⟩
theorem dX9_seam_24 : Dn cX9_seam 24 (.iload_n 3) 1 25 := ⟨by decide +kernel, rfl⟩
theorem dX9_seam_25 : Dn cX9_seam 25 (.iconst (-1)) 1 26 := ⟨by decide +kernel, rfl⟩
theorem dX9_seam_26 : Dn cX9_seam 26 (.aload_n 0) 1 27 := ⟨by decide +kernel, rfl⟩
theorem dX9_seam_27 : Dn cX9_seam 27 (.getfield 170) 3 30 := ⟨by decide +kernel, rfl⟩
theorem dX9_seam_30 : Dn cX9_seam 30 (.iconst 1) 1 31 := ⟨by decide +kernel, rfl⟩
theorem dX9_seam_31 : Dn cX9_seam 31 (.isub) 1 32 := ⟨by decide +kernel, rfl⟩
theorem dX9_seam_32 : Dn cX9_seam 32 (.invokestatic 71) 3 35 := ⟨by decide +kernel, rfl⟩
theorem dX9_seam_35 : Dj cX9_seam 35 (fun o => .ifCond .ne o) (6) 3 38 41 := ⟨by decide +kernel, rfl, by decide⟩
theorem dX9_seam_38 : Dn cX9_seam 38 (.bipush (-6)) 2 40 := ⟨by decide +kernel, rfl⟩
theorem dX9_seam_40 : Dn cX9_seam 40 (.ireturn) 1 41 := ⟨by decide +kernel, rfl⟩
theorem dX9_seam_41 : Dn cX9_seam 41 (.aload_n 0) 1 42 := ⟨by decide +kernel, rfl⟩
theorem dX9_seam_42 : Dn cX9_seam 42 (.getfield 170) 3 45 := ⟨by decide +kernel, rfl⟩
theorem dX9_seam_45 : Dn cX9_seam 45 (.iconst 1) 1 46 := ⟨by decide +kernel, rfl⟩
theorem dX9_seam_46 : Dn cX9_seam 46 (.isub) 1 47 := ⟨by decide +kernel, rfl⟩
theorem dX9_seam_47 : Dn cX9_seam 47 (.istore 5) 2 49 := ⟨by decide +kernel, rfl⟩
theorem dX9_seam_49 : Dn cX9_seam 49 (.iload 5) 2 51 := ⟨by decide +kernel, rfl⟩
theorem dX9_seam_51 : Dj cX9_seam 51 (fun o => .ifCond .lt o) (134) 3 54 185 := ⟨by decide +kernel, rfl, by decide⟩
theorem dX9_seam_54 : Dn cX9_seam 54 (.iconst 0) 1 55 := ⟨by decide +kernel, rfl⟩
theorem dX9_seam_55 : Dn cX9_seam 55 (.istore 6) 2 57 := ⟨by decide +kernel, rfl⟩
theorem dX9_seam_57 : Dn cX9_seam 57 (.iload 6) 2 59 := ⟨by decide +kernel, rfl⟩
theorem dX9_seam_59 : Dn cX9_seam 59 (.aload_n 0) 1 60 := ⟨by decide +kernel, rfl⟩
theorem dX9_seam_60 : Dn cX9_seam 60 (.getfield 167) 3 63 := ⟨by decide +kernel, rfl⟩
theorem dX9_seam_63 : Dj cX9_seam 63 (fun o => .if_icmp .ge o) (116) 3 66 179 := ⟨by decide +kernel, rfl, by decide⟩
theorem dX9_seam_66 : Dn cX9_seam 66 (.aload_n 0) 1 67 := ⟨by decide +kernel, rfl⟩
theorem dX9_seam_67 : Dn cX9_seam 67 (.iload_n 1) 1 68 := ⟨by decide +kernel, rfl⟩
theorem dX9_seam_68 : Dn cX9_seam 68 (.iload 6) 2 70 := ⟨by decide +kernel, rfl⟩
theorem dX9_seam_70 : Dn cX9_seam 70 (.iload 5) 2 72 := ⟨by decide +kernel, rfl⟩
theorem dX9_seam_72 : Dn cX9_seam 72 (.invokevirtual 181) 3 75 := ⟨by decide +kernel, rfl⟩
theorem dX9_seam_75 : Dn cX9_seam 75 (.istore 7) 2 77 := ⟨by decide +kernel, rfl⟩
theorem dX9_seam_77 : Dn cX9_seam 77 (.aload_n 0) 1 78 := ⟨by decide +kernel, rfl⟩
theorem dX9_seam_78 : Dn cX9_seam 78 (.iload_n 2) 1 79 := ⟨by decide +kernel, rfl⟩
theorem dX9_seam_79 : Dn cX9_seam 79 (.iload 6) 2 81 := ⟨by decide +kernel, rfl⟩
theorem dX9_seam_81 : Dn cX9_seam 81 (.iload 5) 2 83 := ⟨by decide +kernel, rfl⟩
theorem dX9_seam_83 : Dn cX9_seam 83 (.invokevirtual 181) 3 86 := ⟨by decide +kernel, rfl⟩
theorem dX9_seam_86 : Dn cX9_seam 86 (.istore 8) 2 88 := ⟨by decide +kernel, rfl⟩
theorem dX9_seam_88 : Dn cX9_seam 88 (.iload 7) 2 90 := ⟨by decide +kernel, rfl⟩
theorem dX9_seam_90 : Dj cX9_seam 90 (fun o => .ifCond .lt o) (8) 3 93 98 := ⟨by decide +kernel, rfl, by decide⟩
theorem dX9_seam_93 : Dn cX9_seam 93 (.iload 8) 2 95 := ⟨by decide +kernel, rfl⟩
theorem dX9_seam_95 : Dj cX9_seam 95 (fun o => .ifCond .ge o) (9) 3 98 104 := ⟨by decide +kernel, rfl, by decide⟩
theorem dX9_seam_98 : Dn cX9_seam 98 (.sipush 255) 3 101 := ⟨by decide +kernel, rfl⟩
theorem dX9_seam_101 : Dj cX9_seam 101 .goto (23) 3 104 124 := ⟨by decide +kernel, rfl, by decide⟩
theorem dX9_seam_104 : Dn cX9_seam 104 (.iload 7) 2 106 := ⟨by decide +kernel, rfl⟩
theorem dX9_seam_106 : Dn cX9_seam 106 (.iload 8) 2 108 := ⟨by decide +kernel, rfl⟩
theorem dX9_seam_108 : Dj cX9_seam 108 (fun o => .if_icmp .ge o) (11) 3 111 119 := ⟨by decide +kernel, rfl, by decide⟩
theorem dX9_seam_111 : Dn cX9_seam 111 (.iload 8) 2 113 := ⟨by decide +kernel, rfl⟩
theorem dX9_seam_113 : Dn cX9_seam 113 (.iload 7) 2 115 := ⟨by decide +kernel, rfl⟩
theorem dX9_seam_115 : Dn cX9_seam 115 (.isub) 1 116 := ⟨by decide +kernel, rfl⟩
theorem dX9_seam_116 : Dj cX9_seam 116 .goto (8) 3 119 124 := ⟨by decide +kernel, rfl, by decide⟩
theorem dX9_seam_119 : Dn cX9_seam 119 (.iload 7) 2 121 := ⟨by decide +kernel, rfl⟩
theorem dX9_seam_121 : Dn cX9_seam 121 (.iload 8) 2 123 := ⟨by decide +kernel, rfl⟩
theorem dX9_seam_123 : Dn cX9_seam 123 (.isub) 1 124 := ⟨by decide +kernel, rfl⟩
theorem dX9_seam_124 : Dn cX9_seam 124 (.istore 9) 2 126 := ⟨by decide +kernel, rfl⟩
theorem dX9_seam_126 : Dn cX9_seam 126 (.aload_n 0) 1 127 := ⟨by decide +kernel, rfl⟩
theorem dX9_seam_127 : Dn cX9_seam 127 (.getfield 65) 3 130 := ⟨by decide +kernel, rfl⟩
theorem dX9_seam_130 : Dn cX9_seam 130 (.bipush 20) 2 132 := ⟨by decide +kernel, rfl⟩
theorem dX9_seam_132 : Dn cX9_seam 132 (.iload 5) 2 134 := ⟨by decide +kernel, rfl⟩
theorem dX9_seam_134 : Dn cX9_seam 134 (.imul) 1 135 := ⟨by decide +kernel, rfl⟩
theorem dX9_seam_135 : Dn cX9_seam 135 (.iload 6) 2 137 := ⟨by decide +kernel, rfl⟩
theorem dX9_seam_137 : Dn cX9_seam 137 (.iadd) 1 138 := ⟨by decide +kernel, rfl⟩
theorem dX9_seam_138 : Dn cX9_seam 138 (.iload 9) 2 140 := ⟨by decide +kernel, rfl⟩
theorem dX9_seam_140 : Dn cX9_seam 140 (.iload 5) 2 142 := ⟨by decide +kernel, rfl⟩
theorem dX9_seam_142 : Dn cX9_seam 142 (.aload_n 0) 1 143 := ⟨by decide +kernel, rfl⟩
theorem dX9_seam_143 : Dn cX9_seam 143 (.getfield 170) 3 146 := ⟨by decide +kernel, rfl⟩
theorem dX9_seam_146 : Dn cX9_seam 146 (.iconst 1) 1 147 := ⟨by decide +kernel, rfl⟩
theorem dX9_seam_147 : Dn cX9_seam 147 (.isub) 1 148 := ⟨by decide +kernel, rfl⟩
theorem dX9_seam_148 : Dj cX9_seam 148 (fun o => .if_icmp .ne o) (7) 3 151 155 := ⟨by decide +kernel, rfl, by decide⟩
theorem dX9_seam_151 : Dn cX9_seam 151 (.iconst 0) 1 152 := ⟨by decide +kernel, rfl⟩
theorem dX9_seam_152 : Dj cX9_seam 152 .goto (19) 3 155 171 := ⟨by decide +kernel, rfl, by decide⟩
theorem dX9_seam_155 : Dn cX9_seam 155 (.aload_n 0) 1 156 := ⟨by decide +kernel, rfl⟩
theorem dX9_seam_156 : Dn cX9_seam 156 (.iload 5) 2 158 := ⟨by decide +kernel, rfl⟩
theorem dX9_seam_158 : Dn cX9_seam 158 (.iconst 1) 1 159 := ⟨by decide +kernel, rfl⟩
theorem dX9_seam_159 : Dn cX9_seam 159 (.iadd) 1 160 := ⟨by decide +kernel, rfl⟩
theorem dX9_seam_160 : Dn cX9_seam 160 (.aload_n 0) 1 161 := ⟨by decide +kernel, rfl⟩
theorem dX9_seam_161 : Dn cX9_seam 161 (.iload 5) 2 163 := ⟨by decide +kernel, rfl⟩
theorem dX9_seam_163 : Dn cX9_seam 163 (.iload 6) 2 165 := ⟨by decide +kernel, rfl⟩
theorem dX9_seam_165 : Dn cX9_seam 165 (.invokevirtual 187) 3 168 := ⟨by decide +kernel, rfl⟩
theorem dX9_seam_168 : Dn cX9_seam 168 (.invokevirtual 184) 3 171 := ⟨by decide +kernel, rfl⟩
theorem dX9_seam_171 : Dn cX9_seam 171 (.iadd) 1 172 := ⟨by decide +kernel, rfl⟩
theorem dX9_seam_172 : Dn cX9_seam 172 (.iastore) 1 173 := ⟨by decide +kernel, rfl⟩
theorem dX9_seam_173 : Dn cX9_seam 173 (.iinc 6 1) 3 176 := ⟨by decide +kernel, rfl⟩
theorem dX9_seam_176 : Dj cX9_seam 176 .goto (-119) 3 179 57 := ⟨by decide +kernel, rfl, by decide⟩
theorem dX9_seam_179 : Dn cX9_seam 179 (.iinc 5 (-1)) 3 182 := ⟨by decide +kernel, rfl⟩
theorem dX9_seam_182 : Dj cX9_seam 182 .goto (-133) 3 185 49 := ⟨by decide +kernel, rfl, by decide⟩
theorem dX9_seam_185 : Dn cX9_seam 185 (.iconst 0) 1 186 := ⟨by decide +kernel, rfl⟩
theorem dX9_seam_186 : Dn cX9_seam 186 (.istore 5) 2 188 := ⟨by decide +kernel, rfl⟩
theorem dX9_seam_188 : Dn cX9_seam 188 (.iconst 1) 1 189 := ⟨by decide +kernel, rfl⟩
theorem dX9_seam_189 : Dn cX9_seam 189 (.istore 6) 2 191 := ⟨by decide +kernel, rfl⟩
theorem dX9_seam_191 : Dn cX9_seam 191 (.iload 6) 2 193 := ⟨by decide +kernel, rfl⟩
theorem dX9_seam_193 : Dn cX9_seam 193 (.aload_n 0) 1 194 := ⟨by decide +kernel, rfl⟩
theorem dX9_seam_194 : Dn cX9_seam 194 (.getfield 167) 3 197 := ⟨by decide +kernel, rfl⟩
theorem dX9_seam_197 : Dj cX9_seam 197 (fun o => .if_icmp .ge o) (35) 3 200 232 := ⟨by decide +kernel, rfl, by decide⟩
theorem dX9_seam_200 : Dn cX9_seam 200 (.aload_n 0) 1 201 := ⟨by decide +kernel, rfl⟩
theorem dX9_seam_201 : Dn cX9_seam 201 (.getfield 65) 3 204 := ⟨by decide +kernel, rfl⟩
theorem dX9_seam_204 : Dn cX9_seam 204 (.iload 6) 2 206 := ⟨by decide +kernel, rfl⟩
theorem dX9_seam_206 : Dn cX9_seam 206 (.iaload) 1 207 := ⟨by decide +kernel, rfl⟩
theorem dX9_seam_207 : Dn cX9_seam 207 (.aload_n 0) 1 208 := ⟨by decide +kernel, rfl⟩
theorem dX9_seam_208 : Dn cX9_seam 208 (.getfield 65) 3 211 := ⟨by decide +kernel, rfl⟩
theorem dX9_seam_211 : Dn cX9_seam 211 (.iload 5) 2 213 := ⟨by decide +kernel, rfl⟩
theorem dX9_seam_213 : Dn cX9_seam 213 (.iaload) 1 214 := ⟨by decide +kernel, rfl⟩
theorem dX9_seam_214 : Dj cX9_seam 214 (fun o => .if_icmp .ge o) (8) 3 217 222 := ⟨by decide +kernel, rfl, by decide⟩
theorem dX9_seam_217 : Dn cX9_seam 217 (.iload 6) 2 219 := ⟨by decide +kernel, rfl⟩
theorem dX9_seam_219 : Dj cX9_seam 219 .goto (5) 3 222 224 := ⟨by decide +kernel, rfl, by decide⟩
theorem dX9_seam_222 : Dn cX9_seam 222 (.iload 5) 2 224 := ⟨by decide +kernel, rfl⟩
theorem dX9_seam_224 : Dn cX9_seam 224 (.istore 5) 2 226 := ⟨by decide +kernel, rfl⟩
theorem dX9_seam_226 : Dn cX9_seam 226 (.iinc 6 1) 3 229 := ⟨by decide +kernel, rfl⟩
theorem dX9_seam_229 : Dj cX9_seam 229 .goto (-38) 3 232 191 := ⟨by decide +kernel, rfl, by decide⟩
theorem dX9_seam_232 : Dn cX9_seam 232 (.iload_n 3) 1 233 := ⟨by decide +kernel, rfl⟩
theorem dX9_seam_233 : Dn cX9_seam 233 (.iconst (-1)) 1 234 := ⟨by decide +kernel, rfl⟩
theorem dX9_seam_234 : Dj cX9_seam 234 (fun o => .if_icmp .ne o) (11) 3 237 245 := ⟨by decide +kernel, rfl, by decide⟩
theorem dX9_seam_237 : Dn cX9_seam 237 (.aload_n 0) 1 238 := ⟨by decide +kernel, rfl⟩
theorem dX9_seam_238 : Dn cX9_seam 238 (.getfield 65) 3 241 := ⟨by decide +kernel, rfl⟩
theorem dX9_seam_241 : Dn cX9_seam 241 (.iload 5) 2 243 := ⟨by decide +kernel, rfl⟩
theorem dX9_seam_243 : Dn cX9_seam 243 (.iaload) 1 244 := ⟨by decide +kernel, rfl⟩
theorem dX9_seam_244 : Dn cX9_seam 244 (.ireturn) 1 245 := ⟨by decide +kernel, rfl⟩
theorem dX9_seam_245 : Dn cX9_seam 245 (.iconst 0) 1 246 := ⟨by decide +kernel, rfl⟩
theorem dX9_seam_246 : Dn cX9_seam 246 (.istore 6) 2 248 := ⟨by decide +kernel, rfl⟩
theorem dX9_seam_248 : Dn cX9_seam 248 (.iload 6) 2 250 := ⟨by decide +kernel, rfl⟩
theorem dX9_seam_250 : Dn cX9_seam 250 (.iload_n 3) 1 251 := ⟨by decide +kernel, rfl⟩
theorem dX9_seam_251 : Dj cX9_seam 251 (fun o => .if_icmp .ge o) (19) 3 254 270 := ⟨by decide +kernel, rfl, by decide⟩
theorem dX9_seam_254 : Dn cX9_seam 254 (.aload_n 0) 1 255 := ⟨by decide +kernel, rfl⟩
theorem dX9_seam_255 : Dn cX9_seam 255 (.iload 6) 2 257 := ⟨by decide +kernel, rfl⟩
theorem dX9_seam_257 : Dn cX9_seam 257 (.iload 5) 2 259 := ⟨by decide +kernel, rfl⟩
theorem dX9_seam_259 : Dn cX9_seam 259 (.invokevirtual 187) 3 262 := ⟨by decide +kernel, rfl⟩
theorem dX9_seam_262 : Dn cX9_seam 262 (.istore 5) 2 264 := ⟨by decide +kernel, rfl⟩
theorem dX9_seam_264 : Dn cX9_seam 264 (.iinc 6 1) 3 267 := ⟨by decide +kernel, rfl⟩
theorem dX9_seam_267 : Dj cX9_seam 267 .goto (-19) 3 270 248 := ⟨by decide +kernel, rfl, by decide⟩
theorem dX9_seam_270 : Dn cX9_seam 270 (.iload 5) 2 272 := ⟨by decide +kernel, rfl⟩
theorem dX9_seam_272 : Dn cX9_seam 272 (.ireturn) 1 273 := ⟨by decide +kernel, rfl⟩
theorem dX9_pictureAt_0 : Dn cX9_pictureAt 0 (.bipush (-6)) 2 2 := ⟨by decide +kernel, rfl⟩
theorem dX9_pictureAt_2 : Dn cX9_pictureAt 2 (.istore_n 3) 1 3 := ⟨by decide +kernel, rfl⟩
theorem dX9_pictureAt_3 : Dn cX9_pictureAt 3 (.iconst 0) 1 4 := ⟨by decide +kernel, rfl⟩
theorem dX9_pictureAt_4 : Dn cX9_pictureAt 4 (.istore 4) 2 6 := ⟨by decide +kernel, rfl⟩
theorem dX9_pictureAt_6 : Dn cX9_pictureAt 6 (.iload 4) 2 8 := ⟨by decide +kernel, rfl⟩
theorem dX9_pictureAt_8 : Dn cX9_pictureAt 8 (.aload_n 0) 1 9 := ⟨by decide +kernel, rfl⟩
theorem dX9_pictureAt_9 : Dn cX9_pictureAt 9 (.getfield 68) 3 12 := ⟨by decide +kernel, rfl⟩
theorem dX9_pictureAt_12 : Dj cX9_pictureAt 12 (fun o => .if_icmp .ge o) (112) 3 15 124 := ⟨by decide +kernel, rfl, by decide⟩
theorem dX9_pictureAt_15 : Dn cX9_pictureAt 15 (.aload_n 0) 1 16 := ⟨by decide +kernel, rfl⟩
theorem dX9_pictureAt_16 : Dn cX9_pictureAt 16 (.getfield 62) 3 19 := ⟨by decide +kernel, rfl⟩
theorem dX9_pictureAt_19 : Dn cX9_pictureAt 19 (.iload 4) 2 21 := ⟨by decide +kernel, rfl⟩
theorem dX9_pictureAt_21 : Dn cX9_pictureAt 21 (.iaload) 1 22 := ⟨by decide +kernel, rfl⟩
theorem dX9_pictureAt_22 : Dj cX9_pictureAt 22 (fun o => .ifCond .lt o) (61) 3 25 83 := ⟨by decide +kernel, rfl, by decide⟩
theorem dX9_pictureAt_25 : Dn cX9_pictureAt 25 (.aload_n 0) 1 26 := ⟨by decide +kernel, rfl⟩
theorem dX9_pictureAt_26 : Dn cX9_pictureAt 26 (.iload 4) 2 28 := ⟨by decide +kernel, rfl⟩
theorem dX9_pictureAt_28 : Dn cX9_pictureAt 28 (.iload_n 1) 1 29 := ⟨by decide +kernel, rfl⟩
theorem dX9_pictureAt_29 : Dn cX9_pictureAt 29 (.aload_n 0) 1 30 := ⟨by decide +kernel, rfl⟩
theorem dX9_pictureAt_30 : Dn cX9_pictureAt 30 (.getfield 53) 3 33 := ⟨by decide +kernel, rfl⟩
theorem dX9_pictureAt_33 : Dn cX9_pictureAt 33 (.iload 4) 2 35 := ⟨by decide +kernel, rfl⟩
theorem dX9_pictureAt_35 : Dn cX9_pictureAt 35 (.iaload) 1 36 := ⟨by decide +kernel, rfl⟩
theorem dX9_pictureAt_36 : Dn cX9_pictureAt 36 (.isub) 1 37 := ⟨by decide +kernel, rfl⟩
theorem dX9_pictureAt_37 : Dn cX9_pictureAt 37 (.iload_n 2) 1 38 := ⟨by decide +kernel, rfl⟩
theorem dX9_pictureAt_38 : Dn cX9_pictureAt 38 (.aload_n 0) 1 39 := ⟨by decide +kernel, rfl⟩
theorem dX9_pictureAt_39 : Dn cX9_pictureAt 39 (.getfield 56) 3 42 := ⟨by decide +kernel, rfl⟩
theorem dX9_pictureAt_42 : Dn cX9_pictureAt 42 (.iload 4) 2 44 := ⟨by decide +kernel, rfl⟩
theorem dX9_pictureAt_44 : Dn cX9_pictureAt 44 (.iaload) 1 45 := ⟨by decide +kernel, rfl⟩
theorem dX9_pictureAt_45 : Dn cX9_pictureAt 45 (.isub) 1 46 := ⟨by decide +kernel, rfl⟩
theorem dX9_pictureAt_46 : Dn cX9_pictureAt 46 (.invokevirtual 94) 3 49 := ⟨by decide +kernel, rfl⟩
theorem dX9_pictureAt_49 : Dj cX9_pictureAt 49 (fun o => .ifCond .eq o) (34) 3 52 83 := ⟨by decide +kernel, rfl, by decide⟩
theorem dX9_pictureAt_52 : Dn cX9_pictureAt 52 (.aload_n 0) 1 53 := ⟨by decide +kernel, rfl⟩
theorem dX9_pictureAt_53 : Dn cX9_pictureAt 53 (.iload 4) 2 55 := ⟨by decide +kernel, rfl⟩
theorem dX9_pictureAt_55 : Dn cX9_pictureAt 55 (.iload_n 1) 1 56 := ⟨by decide +kernel, rfl⟩
theorem dX9_pictureAt_56 : Dn cX9_pictureAt 56 (.aload_n 0) 1 57 := ⟨by decide +kernel, rfl⟩
theorem dX9_pictureAt_57 : Dn cX9_pictureAt 57 (.getfield 53) 3 60 := ⟨by decide +kernel, rfl⟩
theorem dX9_pictureAt_60 : Dn cX9_pictureAt 60 (.iload 4) 2 62 := ⟨by decide +kernel, rfl⟩
theorem dX9_pictureAt_62 : Dn cX9_pictureAt 62 (.iaload) 1 63 := ⟨by decide +kernel, rfl⟩
theorem dX9_pictureAt_63 : Dn cX9_pictureAt 63 (.isub) 1 64 := ⟨by decide +kernel, rfl⟩
theorem dX9_pictureAt_64 : Dn cX9_pictureAt 64 (.iload_n 2) 1 65 := ⟨by decide +kernel, rfl⟩
theorem dX9_pictureAt_65 : Dn cX9_pictureAt 65 (.aload_n 0) 1 66 := ⟨by decide +kernel, rfl⟩
theorem dX9_pictureAt_66 : Dn cX9_pictureAt 66 (.getfield 56) 3 69 := ⟨by decide +kernel, rfl⟩
theorem dX9_pictureAt_69 : Dn cX9_pictureAt 69 (.iload 4) 2 71 := ⟨by decide +kernel, rfl⟩
theorem dX9_pictureAt_71 : Dn cX9_pictureAt 71 (.iaload) 1 72 := ⟨by decide +kernel, rfl⟩
theorem dX9_pictureAt_72 : Dn cX9_pictureAt 72 (.isub) 1 73 := ⟨by decide +kernel, rfl⟩
theorem dX9_pictureAt_73 : Dn cX9_pictureAt 73 (.invokevirtual 99) 3 76 := ⟨by decide +kernel, rfl⟩
theorem dX9_pictureAt_76 : Dj cX9_pictureAt 76 (fun o => .ifCond .lt o) (7) 3 79 83 := ⟨by decide +kernel, rfl, by decide⟩
theorem dX9_pictureAt_79 : Dn cX9_pictureAt 79 (.iconst 1) 1 80 := ⟨by decide +kernel, rfl⟩
theorem dX9_pictureAt_80 : Dj cX9_pictureAt 80 .goto (4) 3 83 84 := ⟨by decide +kernel, rfl, by decide⟩
theorem dX9_pictureAt_83 : Dn cX9_pictureAt 83 (.iconst 0) 1 84 := ⟨by decide +kernel, rfl⟩
theorem dX9_pictureAt_84 : Dn cX9_pictureAt 84 (.istore 5) 2 86 := ⟨by decide +kernel, rfl⟩
theorem dX9_pictureAt_86 : Dn cX9_pictureAt 86 (.iload 5) 2 88 := ⟨by decide +kernel, rfl⟩
theorem dX9_pictureAt_88 : Dj cX9_pictureAt 88 (fun o => .ifCond .eq o) (28) 3 91 116 := ⟨by decide +kernel, rfl, by decide⟩
theorem dX9_pictureAt_91 : Dn cX9_pictureAt 91 (.iload_n 3) 1 92 := ⟨by decide +kernel, rfl⟩
theorem dX9_pictureAt_92 : Dj cX9_pictureAt 92 (fun o => .ifCond .lt o) (19) 3 95 111 := ⟨by decide +kernel, rfl, by decide⟩
theorem dX9_pictureAt_95 : Dn cX9_pictureAt 95 (.aload_n 0) 1 96 := ⟨by decide +kernel, rfl⟩
theorem dX9_pictureAt_96 : Dn cX9_pictureAt 96 (.getfield 62) 3 99 := ⟨by decide +kernel, rfl⟩
theorem dX9_pictureAt_99 : Dn cX9_pictureAt 99 (.iload 4) 2 101 := ⟨by decide +kernel, rfl⟩
theorem dX9_pictureAt_101 : Dn cX9_pictureAt 101 (.iaload) 1 102 := ⟨by decide +kernel, rfl⟩
theorem dX9_pictureAt_102 : Dn cX9_pictureAt 102 (.aload_n 0) 1 103 := ⟨by decide +kernel, rfl⟩
theorem dX9_pictureAt_103 : Dn cX9_pictureAt 103 (.getfield 62) 3 106 := ⟨by decide +kernel, rfl⟩
theorem dX9_pictureAt_106 : Dn cX9_pictureAt 106 (.iload_n 3) 1 107 := ⟨by decide +kernel, rfl⟩
theorem dX9_pictureAt_107 : Dn cX9_pictureAt 107 (.iaload) 1 108 := ⟨by decide +kernel, rfl⟩
theorem dX9_pictureAt_108 : Dj cX9_pictureAt 108 (fun o => .if_icmp .ge o) (8) 3 111 116 := ⟨by decide +kernel, rfl, by decide⟩
theorem dX9_pictureAt_111 : Dn cX9_pictureAt 111 (.iload 4) 2 113 := ⟨by decide +kernel, rfl⟩
theorem dX9_pictureAt_113 : Dj cX9_pictureAt 113 .goto (4) 3 116 117 := ⟨by decide +kernel, rfl, by decide⟩
theorem dX9_pictureAt_116 : Dn cX9_pictureAt 116 (.iload_n 3) 1 117 := ⟨by decide +kernel, rfl⟩
theorem dX9_pictureAt_117 : Dn cX9_pictureAt 117 (.istore_n 3) 1 118 := ⟨by decide +kernel, rfl⟩
theorem dX9_pictureAt_118 : Dn cX9_pictureAt 118 (.iinc 4 1) 3 121 := ⟨by decide +kernel, rfl⟩
theorem dX9_pictureAt_121 : Dj cX9_pictureAt 121 .goto (-115) 3 124 6 := ⟨by decide +kernel, rfl, by decide⟩
theorem dX9_pictureAt_124 : Dn cX9_pictureAt 124 (.iload_n 3) 1 125 := ⟨by decide +kernel, rfl⟩
theorem dX9_pictureAt_125 : Dn cX9_pictureAt 125 (.ireturn) 1 126 := ⟨by decide +kernel, rfl⟩
theorem dX9_whole_0 : Dn cX9_whole 0 (.iload_n 3) 1 1 := ⟨by decide +kernel, rfl⟩
theorem dX9_whole_1 : Dn cX9_whole 1 (.iconst 0) 1 2 := ⟨by decide +kernel, rfl⟩
theorem dX9_whole_2 : Dn cX9_whole 2 (.iconst 1) 1 3 := ⟨by decide +kernel, rfl⟩
theorem dX9_whole_3 : Dn cX9_whole 3 (.invokestatic 71) 3 6 := ⟨by decide +kernel, rfl⟩
theorem dX9_whole_6 : Dj cX9_whole 6 (fun o => .ifCond .ne o) (6) 3 9 12 := ⟨by decide +kernel, rfl, by decide⟩
theorem dX9_whole_9 : Dn cX9_whole 9 (.bipush (-2)) 2 11 := ⟨by decide +kernel, rfl⟩
theorem dX9_whole_11 : Dn cX9_whole 11 (.ireturn) 1 12 := ⟨by decide +kernel, rfl⟩
theorem dX9_whole_12 : Dn cX9_whole 12 (.aload_n 0) 1 13 := ⟨by decide +kernel, rfl⟩
theorem dX9_whole_13 : Dn cX9_whole 13 (.invokevirtual 150) 3 16 := ⟨by decide +kernel, rfl⟩
theorem dX9_whole_16 : Dn cX9_whole 16 (.iload_n 1) 1 17 := ⟨by decide +kernel, rfl⟩
theorem dX9_whole_17 : Dn cX9_whole 17 (.sipush (-1000)) 3 20 := ⟨by decide +kernel, rfl⟩
theorem dX9_whole_20 : Dn cX9_whole 20 (.sipush 1000) 3 23 := ⟨by decide +kernel, rfl⟩
theorem dX9_whole_23 : Dn cX9_whole 23 (.invokestatic 71) 3 26 := ⟨by decide +kernel, rfl⟩
theorem dX9_whole_26 : Dj cX9_whole 26 (fun o => .ifCond .eq o) (25) 3 29 51 := ⟨by decide +kernel, rfl, by decide⟩
theorem dX9_whole_29 : Dn cX9_whole 29 (.iload_n 2) 1 30 := ⟨by decide +kernel, rfl⟩
theorem dX9_whole_30 : Dn cX9_whole 30 (.sipush (-1000)) 3 33 := ⟨by decide +kernel, rfl⟩
theorem dX9_whole_33 : Dn cX9_whole 33 (.sipush 1000) 3 36 := ⟨by decide +kernel, rfl⟩
theorem dX9_whole_36 : Dn cX9_whole 36 (.invokestatic 71) 3 39 := ⟨by decide +kernel, rfl⟩
theorem dX9_whole_39 : Dj cX9_whole 39 (fun o => .ifCond .eq o) (12) 3 42 51 := ⟨by decide +kernel, rfl, by decide⟩
theorem dX9_whole_42 : Dn cX9_whole 42 (.aload_n 0) 1 43 := ⟨by decide +kernel, rfl⟩
theorem dX9_whole_43 : Dn cX9_whole 43 (.iload_n 1) 1 44 := ⟨by decide +kernel, rfl⟩
theorem dX9_whole_44 : Dn cX9_whole 44 (.iload_n 2) 1 45 := ⟨by decide +kernel, rfl⟩
theorem dX9_whole_45 : Dn cX9_whole 45 (.invokevirtual 190) 3 48 := ⟨by decide +kernel, rfl⟩
theorem dX9_whole_48 : Dj cX9_whole 48 .goto (5) 3 51 53 := ⟨by decide +kernel, rfl, by decide⟩
theorem dX9_whole_51 : Dn cX9_whole 51 (.bipush (-6)) 2 53 := ⟨by decide +kernel, rfl⟩
theorem dX9_whole_53 : Dn cX9_whole 53 (.istore 4) 2 55 := ⟨by decide +kernel, rfl⟩
theorem dX9_whole_55 : Dn cX9_whole 55 (.iload 4) 2 57 := ⟨by decide +kernel, rfl⟩
theorem dX9_whole_57 : Dj cX9_whole 57 (fun o => .ifCond .ge o) (8) 3 60 65 := ⟨by decide +kernel, rfl, by decide⟩
theorem dX9_whole_60 : Dn cX9_whole 60 (.bipush (-6)) 2 62 := ⟨by decide +kernel, rfl⟩
theorem dX9_whole_62 : Dj cX9_whole 62 .goto (37) 3 65 99 := ⟨by decide +kernel, rfl, by decide⟩
theorem dX9_whole_65 : Dn cX9_whole 65 (.iload_n 3) 1 66 := ⟨by decide +kernel, rfl⟩
theorem dX9_whole_66 : Dn cX9_whole 66 (.iconst 1) 1 67 := ⟨by decide +kernel, rfl⟩
theorem dX9_whole_67 : Dj cX9_whole 67 (fun o => .if_icmp .ne o) (8) 3 70 75 := ⟨by decide +kernel, rfl, by decide⟩
theorem dX9_whole_70 : Dn cX9_whole 70 (.iload 4) 2 72 := ⟨by decide +kernel, rfl⟩
theorem dX9_whole_72 : Dj cX9_whole 72 .goto (27) 3 75 99 := ⟨by decide +kernel, rfl, by decide⟩
theorem dX9_whole_75 : Dn cX9_whole 75 (.aload_n 0) 1 76 := ⟨by decide +kernel, rfl⟩
theorem dX9_whole_76 : Dn cX9_whole 76 (.iload 4) 2 78 := ⟨by decide +kernel, rfl⟩
theorem dX9_whole_78 : Dn cX9_whole 78 (.iload_n 1) 1 79 := ⟨by decide +kernel, rfl⟩
theorem dX9_whole_79 : Dn cX9_whole 79 (.aload_n 0) 1 80 := ⟨by decide +kernel, rfl⟩
theorem dX9_whole_80 : Dn cX9_whole 80 (.getfield 53) 3 83 := ⟨by decide +kernel, rfl⟩
theorem dX9_whole_83 : Dn cX9_whole 83 (.iload 4) 2 85 := ⟨by decide +kernel, rfl⟩
theorem dX9_whole_85 : Dn cX9_whole 85 (.iaload) 1 86 := ⟨by decide +kernel, rfl⟩
theorem dX9_whole_86 : Dn cX9_whole 86 (.isub) 1 87 := ⟨by decide +kernel, rfl⟩
theorem dX9_whole_87 : Dn cX9_whole 87 (.iload_n 2) 1 88 := ⟨by decide +kernel, rfl⟩
theorem dX9_whole_88 : Dn cX9_whole 88 (.aload_n 0) 1 89 := ⟨by decide +kernel, rfl⟩
theorem dX9_whole_89 : Dn cX9_whole 89 (.getfield 56) 3 92 := ⟨by decide +kernel, rfl⟩
theorem dX9_whole_92 : Dn cX9_whole 92 (.iload 4) 2 94 := ⟨by decide +kernel, rfl⟩
theorem dX9_whole_94 : Dn cX9_whole 94 (.iaload) 1 95 := ⟨by decide +kernel, rfl⟩
theorem dX9_whole_95 : Dn cX9_whole 95 (.isub) 1 96 := ⟨by decide +kernel, rfl⟩
theorem dX9_whole_96 : Dn cX9_whole 96 (.invokevirtual 99) 3 99 := ⟨by decide +kernel, rfl⟩
theorem dX9_whole_99 : Dn cX9_whole 99 (.ireturn) 1 100 := ⟨by decide +kernel, rfl⟩
theorem dX9_edge_0 : Dn cX9_edge 0 (.iconst 0) 1 1 := ⟨by decide +kernel, rfl⟩
theorem dX9_edge_1 : Dn cX9_edge 1 (.istore_n 2) 1 2 := ⟨by decide +kernel, rfl⟩
theorem dX9_edge_2 : Dn cX9_edge 2 (.iconst 0) 1 3 := ⟨by decide +kernel, rfl⟩
theorem dX9_edge_3 : Dn cX9_edge 3 (.istore_n 3) 1 4 := ⟨by decide +kernel, rfl⟩
theorem dX9_edge_4 : Dn cX9_edge 4 (.iload_n 3) 1 5 := ⟨by decide +kernel, rfl⟩
theorem dX9_edge_5 : Dn cX9_edge 5 (.aload_n 0) 1 6 := ⟨by decide +kernel, rfl⟩
theorem dX9_edge_6 : Dn cX9_edge 6 (.getfield 68) 3 9 := ⟨by decide +kernel, rfl⟩
theorem dX9_edge_9 : Dj cX9_edge 9 (fun o => .if_icmp .ge o) (128) 3 12 137 := ⟨by decide +kernel, rfl, by decide⟩
theorem dX9_edge_12 : Dn cX9_edge 12 (.aload_n 0) 1 13 := ⟨by decide +kernel, rfl⟩
theorem dX9_edge_13 : Dn cX9_edge 13 (.getfield 62) 3 16 := ⟨by decide +kernel, rfl⟩
theorem dX9_edge_16 : Dn cX9_edge 16 (.iload_n 3) 1 17 := ⟨by decide +kernel, rfl⟩
theorem dX9_edge_17 : Dn cX9_edge 17 (.iaload) 1 18 := ⟨by decide +kernel, rfl⟩
theorem dX9_edge_18 : Dj cX9_edge 18 (fun o => .ifCond .lt o) (113) 3 21 131 := ⟨by decide +kernel, rfl, by decide⟩
theorem dX9_edge_21 : Dn cX9_edge 21 (.iload_n 1) 1 22 := ⟨by decide +kernel, rfl⟩
theorem dX9_edge_22 : Dj cX9_edge 22 (fun o => .ifCond .ne o) (12) 3 25 34 := ⟨by decide +kernel, rfl, by decide⟩
theorem dX9_edge_25 : Dn cX9_edge 25 (.aload_n 0) 1 26 := ⟨by decide +kernel, rfl⟩
theorem dX9_edge_26 : Dn cX9_edge 26 (.getfield 53) 3 29 := ⟨by decide +kernel, rfl⟩
theorem dX9_edge_29 : Dn cX9_edge 29 (.iload_n 3) 1 30 := ⟨by decide +kernel, rfl⟩
theorem dX9_edge_30 : Dn cX9_edge 30 (.iaload) 1 31 := ⟨by decide +kernel, rfl⟩
theorem dX9_edge_31 : Dj cX9_edge 31 .goto (55) 3 34 86 := ⟨by decide +kernel, rfl, by decide⟩
theorem dX9_edge_34 : Dn cX9_edge 34 (.iload_n 1) 1 35 := ⟨by decide +kernel, rfl⟩
theorem dX9_edge_35 : Dn cX9_edge 35 (.iconst 1) 1 36 := ⟨by decide +kernel, rfl⟩
theorem dX9_edge_36 : Dj cX9_edge 36 (fun o => .if_icmp .ne o) (12) 3 39 48 := ⟨by decide +kernel, rfl, by decide⟩
theorem dX9_edge_39 : Dn cX9_edge 39 (.aload_n 0) 1 40 := ⟨by decide +kernel, rfl⟩
theorem dX9_edge_40 : Dn cX9_edge 40 (.getfield 56) 3 43 := ⟨by decide +kernel, rfl⟩
theorem dX9_edge_43 : Dn cX9_edge 43 (.iload_n 3) 1 44 := ⟨by decide +kernel, rfl⟩
theorem dX9_edge_44 : Dn cX9_edge 44 (.iaload) 1 45 := ⟨by decide +kernel, rfl⟩
theorem dX9_edge_45 : Dj cX9_edge 45 .goto (41) 3 48 86 := ⟨by decide +kernel, rfl, by decide⟩
theorem dX9_edge_48 : Dn cX9_edge 48 (.iload_n 1) 1 49 := ⟨by decide +kernel, rfl⟩
theorem dX9_edge_49 : Dn cX9_edge 49 (.iconst 2) 1 50 := ⟨by decide +kernel, rfl⟩
theorem dX9_edge_50 : Dj cX9_edge 50 (fun o => .if_icmp .ne o) (21) 3 53 71 := ⟨by decide +kernel, rfl, by decide⟩
theorem dX9_edge_53 : Dn cX9_edge 53 (.aload_n 0) 1 54 := ⟨by decide +kernel, rfl⟩
theorem dX9_edge_54 : Dn cX9_edge 54 (.getfield 53) 3 57 := ⟨by decide +kernel, rfl⟩
theorem dX9_edge_57 : Dn cX9_edge 57 (.iload_n 3) 1 58 := ⟨by decide +kernel, rfl⟩
theorem dX9_edge_58 : Dn cX9_edge 58 (.iaload) 1 59 := ⟨by decide +kernel, rfl⟩
theorem dX9_edge_59 : Dn cX9_edge 59 (.aload_n 0) 1 60 := ⟨by decide +kernel, rfl⟩
theorem dX9_edge_60 : Dn cX9_edge 60 (.getfield 7) 3 63 := ⟨by decide +kernel, rfl⟩
theorem dX9_edge_63 : Dn cX9_edge 63 (.iload_n 3) 1 64 := ⟨by decide +kernel, rfl⟩
theorem dX9_edge_64 : Dn cX9_edge 64 (.iaload) 1 65 := ⟨by decide +kernel, rfl⟩
theorem dX9_edge_65 : Dn cX9_edge 65 (.iadd) 1 66 := ⟨by decide +kernel, rfl⟩
theorem dX9_edge_66 : Dn cX9_edge 66 (.iconst 1) 1 67 := ⟨by decide +kernel, rfl⟩
theorem dX9_edge_67 : Dn cX9_edge 67 (.isub) 1 68 := ⟨by decide +kernel, rfl⟩
theorem dX9_edge_68 : Dj cX9_edge 68 .goto (18) 3 71 86 := ⟨by decide +kernel, rfl, by decide⟩
theorem dX9_edge_71 : Dn cX9_edge 71 (.aload_n 0) 1 72 := ⟨by decide +kernel, rfl⟩
theorem dX9_edge_72 : Dn cX9_edge 72 (.getfield 56) 3 75 := ⟨by decide +kernel, rfl⟩
theorem dX9_edge_75 : Dn cX9_edge 75 (.iload_n 3) 1 76 := ⟨by decide +kernel, rfl⟩
theorem dX9_edge_76 : Dn cX9_edge 76 (.iaload) 1 77 := ⟨by decide +kernel, rfl⟩
theorem dX9_edge_77 : Dn cX9_edge 77 (.aload_n 0) 1 78 := ⟨by decide +kernel, rfl⟩
theorem dX9_edge_78 : Dn cX9_edge 78 (.getfield 13) 3 81 := ⟨by decide +kernel, rfl⟩
theorem dX9_edge_81 : Dn cX9_edge 81 (.iload_n 3) 1 82 := ⟨by decide +kernel, rfl⟩
theorem dX9_edge_82 : Dn cX9_edge 82 (.iaload) 1 83 := ⟨by decide +kernel, rfl⟩
theorem dX9_edge_83 : Dn cX9_edge 83 (.iadd) 1 84 := ⟨by decide +kernel, rfl⟩
theorem dX9_edge_84 : Dn cX9_edge 84 (.iconst 1) 1 85 := ⟨by decide +kernel, rfl⟩
theorem dX9_edge_85 : Dn cX9_edge 85 (.isub) 1 86 := ⟨by decide +kernel, rfl⟩
theorem dX9_edge_86 : Dn cX9_edge 86 (.istore 4) 2 88 := ⟨by decide +kernel, rfl⟩
theorem dX9_edge_88 : Dn cX9_edge 88 (.iload_n 3) 1 89 := ⟨by decide +kernel, rfl⟩
theorem dX9_edge_89 : Dj cX9_edge 89 (fun o => .ifCond .eq o) (23) 3 92 112 := ⟨by decide +kernel, rfl, by decide⟩
theorem dX9_edge_92 : Dn cX9_edge 92 (.iload_n 1) 1 93 := ⟨by decide +kernel, rfl⟩
theorem dX9_edge_93 : Dn cX9_edge 93 (.iconst 2) 1 94 := ⟨by decide +kernel, rfl⟩
theorem dX9_edge_94 : Dj cX9_edge 94 (fun o => .if_icmp .ge o) (12) 3 97 106 := ⟨by decide +kernel, rfl, by decide⟩
theorem dX9_edge_97 : Dn cX9_edge 97 (.iload 4) 2 99 := ⟨by decide +kernel, rfl⟩
theorem dX9_edge_99 : Dn cX9_edge 99 (.iload_n 2) 1 100 := ⟨by decide +kernel, rfl⟩
theorem dX9_edge_100 : Dj cX9_edge 100 (fun o => .if_icmp .ge o) (16) 3 103 116 := ⟨by decide +kernel, rfl, by decide⟩
theorem dX9_edge_103 : Dj cX9_edge 103 .goto (9) 3 106 112 := ⟨by decide +kernel, rfl, by decide⟩
theorem dX9_edge_106 : Dn cX9_edge 106 (.iload 4) 2 108 := ⟨by decide +kernel, rfl⟩
theorem dX9_edge_108 : Dn cX9_edge 108 (.iload_n 2) 1 109 := ⟨by decide +kernel, rfl⟩
theorem dX9_edge_109 : Dj cX9_edge 109 (fun o => .if_icmp .le o) (7) 3 112 116 := ⟨by decide +kernel, rfl, by decide⟩
theorem dX9_edge_112 : Dn cX9_edge 112 (.iconst 1) 1 113 := ⟨by decide +kernel, rfl⟩
theorem dX9_edge_113 : Dj cX9_edge 113 .goto (4) 3 116 117 := ⟨by decide +kernel, rfl, by decide⟩
theorem dX9_edge_116 : Dn cX9_edge 116 (.iconst 0) 1 117 := ⟨by decide +kernel, rfl⟩
theorem dX9_edge_117 : Dn cX9_edge 117 (.istore 5) 2 119 := ⟨by decide +kernel, rfl⟩
theorem dX9_edge_119 : Dn cX9_edge 119 (.iload 5) 2 121 := ⟨by decide +kernel, rfl⟩
theorem dX9_edge_121 : Dj cX9_edge 121 (fun o => .ifCond .eq o) (8) 3 124 129 := ⟨by decide +kernel, rfl, by decide⟩
theorem dX9_edge_124 : Dn cX9_edge 124 (.iload 4) 2 126 := ⟨by decide +kernel, rfl⟩
theorem dX9_edge_126 : Dj cX9_edge 126 .goto (4) 3 129 130 := ⟨by decide +kernel, rfl, by decide⟩
theorem dX9_edge_129 : Dn cX9_edge 129 (.iload_n 2) 1 130 := ⟨by decide +kernel, rfl⟩
theorem dX9_edge_130 : Dn cX9_edge 130 (.istore_n 2) 1 131 := ⟨by decide +kernel, rfl⟩
theorem dX9_edge_131 : Dn cX9_edge 131 (.iinc 3 1) 3 134 := ⟨by decide +kernel, rfl⟩
theorem dX9_edge_134 : Dj cX9_edge 134 .goto (-130) 3 137 4 := ⟨by decide +kernel, rfl, by decide⟩
theorem dX9_edge_137 : Dn cX9_edge 137 (.iload_n 2) 1 138 := ⟨by decide +kernel, rfl⟩
theorem dX9_edge_138 : Dn cX9_edge 138 (.ireturn) 1 139 := ⟨by decide +kernel, rfl⟩
theorem dX9_extent_0 : Dn cX9_extent 0 (.iload_n 1) 1 1 := ⟨by decide +kernel, rfl⟩
theorem dX9_extent_1 : Dn cX9_extent 1 (.iconst 0) 1 2 := ⟨by decide +kernel, rfl⟩
theorem dX9_extent_2 : Dn cX9_extent 2 (.iconst 4) 1 3 := ⟨by decide +kernel, rfl⟩
theorem dX9_extent_3 : Dn cX9_extent 3 (.invokestatic 71) 3 6 := ⟨by decide +kernel, rfl⟩
theorem dX9_extent_6 : Dj cX9_extent 6 (fun o => .ifCond .ne o) (6) 3 9 12 := ⟨by decide +kernel, rfl, by decide⟩
theorem dX9_extent_9 : Dn cX9_extent 9 (.ldc 98) 2 11 := ⟨by decide +kernel, rfl⟩
theorem dX9_extent_11 : Dn cX9_extent 11 (.ireturn) 1 12 := ⟨by decide +kernel, rfl⟩
theorem dX9_extent_12 : Dn cX9_extent 12 (.aload_n 0) 1 13 := ⟨by decide +kernel, rfl⟩
theorem dX9_extent_13 : Dn cX9_extent 13 (.getfield 68) 3 16 := ⟨by decide +kernel, rfl⟩
theorem dX9_extent_16 : Dj cX9_extent 16 (fun o => .ifCond .ne o) (6) 3 19 22 := ⟨by decide +kernel, rfl, by decide⟩
theorem dX9_extent_19 : Dn cX9_extent 19 (.ldc 160) 2 21 := ⟨by decide +kernel, rfl⟩
theorem dX9_extent_21 : Dn cX9_extent 21 (.ireturn) 1 22 := ⟨by decide +kernel, rfl⟩
theorem dX9_extent_22 : Dn cX9_extent 22 (.aload_n 0) 1 23 := ⟨by decide +kernel, rfl⟩
theorem dX9_extent_23 : Dn cX9_extent 23 (.invokevirtual 150) 3 26 := ⟨by decide +kernel, rfl⟩
theorem dX9_extent_26 : Dn cX9_extent 26 (.iload_n 1) 1 27 := ⟨by decide +kernel, rfl⟩
theorem dX9_extent_27 : Dn cX9_extent 27 (.iconst 4) 1 28 := ⟨by decide +kernel, rfl⟩
theorem dX9_extent_28 : Dj cX9_extent 28 (fun o => .if_icmp .ge o) (9) 3 31 37 := ⟨by decide +kernel, rfl, by decide⟩
theorem dX9_extent_31 : Dn cX9_extent 31 (.aload_n 0) 1 32 := ⟨by decide +kernel, rfl⟩
theorem dX9_extent_32 : Dn cX9_extent 32 (.iload_n 1) 1 33 := ⟨by decide +kernel, rfl⟩
theorem dX9_extent_33 : Dn cX9_extent 33 (.invokevirtual 193) 3 36 := ⟨by decide +kernel, rfl⟩
theorem dX9_extent_36 : Dn cX9_extent 36 (.ireturn) 1 37 := ⟨by decide +kernel, rfl⟩
theorem dX9_extent_37 : Dn cX9_extent 37 (.iconst 0) 1 38 := ⟨by decide +kernel, rfl⟩
theorem dX9_extent_38 : Dn cX9_extent 38 (.istore_n 2) 1 39 := ⟨by decide +kernel, rfl⟩
theorem dX9_extent_39 : Dn cX9_extent 39 (.aload_n 0) 1 40 := ⟨by decide +kernel, rfl⟩
theorem dX9_extent_40 : Dn cX9_extent 40 (.iconst 1) 1 41 := ⟨by decide +kernel, rfl⟩
theorem dX9_extent_41 : Dn cX9_extent 41 (.invokevirtual 193) 3 44 := ⟨by decide +kernel, rfl⟩
theorem dX9_extent_44 : Dn cX9_extent 44 (.istore_n 3) 1 45 := ⟨by decide +kernel, rfl⟩
theorem dX9_extent_45 : Dn cX9_extent 45 (.iload_n 3) 1 46 := ⟨by decide +kernel, rfl⟩
theorem dX9_extent_46 : Dn cX9_extent 46 (.aload_n 0) 1 47 := ⟨by decide +kernel, rfl⟩
theorem dX9_extent_47 : Dn cX9_extent 47 (.iconst 3) 1 48 := ⟨by decide +kernel, rfl⟩
theorem dX9_extent_48 : Dn cX9_extent 48 (.invokevirtual 193) 3 51 := ⟨by decide +kernel, rfl⟩
theorem dX9_extent_51 : Dj cX9_extent 51 (fun o => .if_icmp .gt o) (50) 3 54 101 := ⟨by decide +kernel, rfl, by decide⟩
theorem dX9_extent_54 : Dn cX9_extent 54 (.aload_n 0) 1 55 := ⟨by decide +kernel, rfl⟩
theorem dX9_extent_55 : Dn cX9_extent 55 (.iconst 0) 1 56 := ⟨by decide +kernel, rfl⟩
theorem dX9_extent_56 : Dn cX9_extent 56 (.invokevirtual 193) 3 59 := ⟨by decide +kernel, rfl⟩
theorem dX9_extent_59 : Dn cX9_extent 59 (.istore 4) 2 61 := ⟨by decide +kernel, rfl⟩
theorem dX9_extent_61 : Dn cX9_extent 61 (.iload 4) 2 63 := ⟨by decide +kernel, rfl⟩
theorem dX9_extent_63 : Dn cX9_extent 63 (.aload_n 0) 1 64 := ⟨by decide +kernel, rfl⟩
theorem dX9_extent_64 : Dn cX9_extent 64 (.iconst 2) 1 65 := ⟨by decide +kernel, rfl⟩
theorem dX9_extent_65 : Dn cX9_extent 65 (.invokevirtual 193) 3 68 := ⟨by decide +kernel, rfl⟩
theorem dX9_extent_68 : Dj cX9_extent 68 (fun o => .if_icmp .gt o) (27) 3 71 95 := ⟨by decide +kernel, rfl, by decide⟩
theorem dX9_extent_71 : Dn cX9_extent 71 (.iload_n 2) 1 72 := ⟨by decide +kernel, rfl⟩
theorem dX9_extent_72 : Dn cX9_extent 72 (.aload_n 0) 1 73 := ⟨by decide +kernel, rfl⟩
theorem dX9_extent_73 : Dn cX9_extent 73 (.iload 4) 2 75 := ⟨by decide +kernel, rfl⟩
theorem dX9_extent_75 : Dn cX9_extent 75 (.iload_n 3) 1 76 := ⟨by decide +kernel, rfl⟩
theorem dX9_extent_76 : Dn cX9_extent 76 (.invokevirtual 190) 3 79 := ⟨by decide +kernel, rfl⟩
theorem dX9_extent_79 : Dj cX9_extent 79 (fun o => .ifCond .lt o) (7) 3 82 86 := ⟨by decide +kernel, rfl, by decide⟩
theorem dX9_extent_82 : Dn cX9_extent 82 (.iconst 1) 1 83 := ⟨by decide +kernel, rfl⟩
theorem dX9_extent_83 : Dj cX9_extent 83 .goto (4) 3 86 87 := ⟨by decide +kernel, rfl, by decide⟩
theorem dX9_extent_86 : Dn cX9_extent 86 (.iconst 0) 1 87 := ⟨by decide +kernel, rfl⟩
theorem dX9_extent_87 : Dn cX9_extent 87 (.iadd) 1 88 := ⟨by decide +kernel, rfl⟩
theorem dX9_extent_88 : Dn cX9_extent 88 (.istore_n 2) 1 89 := ⟨by decide +kernel, rfl⟩
theorem dX9_extent_89 : Dn cX9_extent 89 (.iinc 4 1) 3 92 := ⟨by decide +kernel, rfl⟩
theorem dX9_extent_92 : Dj cX9_extent 92 .goto (-31) 3 95 61 := ⟨by decide +kernel, rfl, by decide⟩
theorem dX9_extent_95 : Dn cX9_extent 95 (.iinc 3 1) 3 98 := ⟨by decide +kernel, rfl⟩
theorem dX9_extent_98 : Dj cX9_extent 98 .goto (-53) 3 101 45 := ⟨by decide +kernel, rfl, by decide⟩
theorem dX9_extent_101 : Dn cX9_extent 101 (.iload_n 2) 1 102 := ⟨by decide +kernel, rfl⟩
theorem dX9_extent_102 : Dn cX9_extent 102 (.ireturn) 1 103 := ⟨by decide +kernel, rfl⟩
theorem dX9_told_0 : Dn cX9_told 0 (.iload_n 1) 1 1 := ⟨by decide +kernel, rfl⟩
theorem dX9_told_1 : Dj cX9_told 1 (fun o => .ifCond .ne o) (10) 3 4 11 := ⟨by decide +kernel, rfl, by decide⟩
theorem dX9_told_4 : Dn cX9_told 4 (.aload_n 0) 1 5 := ⟨by decide +kernel, rfl⟩
theorem dX9_told_5 : Dn cX9_told 5 (.getfield 68) 3 8 := ⟨by decide +kernel, rfl⟩
theorem dX9_told_8 : Dj cX9_told 8 .goto (41) 3 11 49 := ⟨by decide +kernel, rfl, by decide⟩
theorem dX9_told_11 : Dn cX9_told 11 (.iload_n 1) 1 12 := ⟨by decide +kernel, rfl⟩
theorem dX9_told_12 : Dn cX9_told 12 (.iconst 1) 1 13 := ⟨by decide +kernel, rfl⟩
theorem dX9_told_13 : Dj cX9_told 13 (fun o => .if_icmp .ne o) (10) 3 16 23 := ⟨by decide +kernel, rfl, by decide⟩
theorem dX9_told_16 : Dn cX9_told 16 (.aload_n 0) 1 17 := ⟨by decide +kernel, rfl⟩
theorem dX9_told_17 : Dn cX9_told 17 (.getfield 19) 3 20 := ⟨by decide +kernel, rfl⟩
theorem dX9_told_20 : Dj cX9_told 20 .goto (29) 3 23 49 := ⟨by decide +kernel, rfl, by decide⟩
theorem dX9_told_23 : Dn cX9_told 23 (.iload_n 1) 1 24 := ⟨by decide +kernel, rfl⟩
theorem dX9_told_24 : Dn cX9_told 24 (.iconst 2) 1 25 := ⟨by decide +kernel, rfl⟩
theorem dX9_told_25 : Dj cX9_told 25 (fun o => .if_icmp .ne o) (10) 3 28 35 := ⟨by decide +kernel, rfl, by decide⟩
theorem dX9_told_28 : Dn cX9_told 28 (.aload_n 0) 1 29 := ⟨by decide +kernel, rfl⟩
theorem dX9_told_29 : Dn cX9_told 29 (.getfield 23) 3 32 := ⟨by decide +kernel, rfl⟩
theorem dX9_told_32 : Dj cX9_told 32 .goto (17) 3 35 49 := ⟨by decide +kernel, rfl, by decide⟩
theorem dX9_told_35 : Dn cX9_told 35 (.iload_n 1) 1 36 := ⟨by decide +kernel, rfl⟩
theorem dX9_told_36 : Dn cX9_told 36 (.iconst 3) 1 37 := ⟨by decide +kernel, rfl⟩
theorem dX9_told_37 : Dj cX9_told 37 (fun o => .if_icmp .ne o) (10) 3 40 47 := ⟨by decide +kernel, rfl, by decide⟩
theorem dX9_told_40 : Dn cX9_told 40 (.aload_n 0) 1 41 := ⟨by decide +kernel, rfl⟩
theorem dX9_told_41 : Dn cX9_told 41 (.getfield 75) 3 44 := ⟨by decide +kernel, rfl⟩
theorem dX9_told_44 : Dj cX9_told 44 .goto (5) 3 47 49 := ⟨by decide +kernel, rfl, by decide⟩
theorem dX9_told_47 : Dn cX9_told 47 (.ldc 98) 2 49 := ⟨by decide +kernel, rfl⟩
theorem dX9_told_49 : Dn cX9_told 49 (.ireturn) 1 50 := ⟨by decide +kernel, rfl⟩
end
section
theorem dJ6_bitCount_0f7a4_0 : Dn cJ6_bitCount_0f7a4 0 (.iload_n 0) 1 1 := ⟨by decide +kernel, rfl⟩
theorem dJ6_bitCount_0f7a4_1 : Dn cJ6_bitCount_0f7a4 1 (.iload_n 0) 1 2 := ⟨by decide +kernel, rfl⟩
theorem dJ6_bitCount_0f7a4_2 : Dn cJ6_bitCount_0f7a4 2 (.iconst 1) 1 3 := ⟨by decide +kernel, rfl⟩
theorem dJ6_bitCount_0f7a4_3 : Dn cJ6_bitCount_0f7a4 3 (.iushr) 1 4 := ⟨by decide +kernel, rfl⟩
theorem dJ6_bitCount_0f7a4_4 : Dn cJ6_bitCount_0f7a4 4 (.ldc_w 265) 3 7 := ⟨by decide +kernel, rfl⟩
theorem dJ6_bitCount_0f7a4_7 : Dn cJ6_bitCount_0f7a4 7 (.iand) 1 8 := ⟨by decide +kernel, rfl⟩
theorem dJ6_bitCount_0f7a4_8 : Dn cJ6_bitCount_0f7a4 8 (.isub) 1 9 := ⟨by decide +kernel, rfl⟩
theorem dJ6_bitCount_0f7a4_9 : Dn cJ6_bitCount_0f7a4 9 (.istore_n 0) 1 10 := ⟨by decide +kernel, rfl⟩
theorem dJ6_bitCount_0f7a4_10 : Dn cJ6_bitCount_0f7a4 10 (.iload_n 0) 1 11 := ⟨by decide +kernel, rfl⟩
theorem dJ6_bitCount_0f7a4_11 : Dn cJ6_bitCount_0f7a4 11 (.ldc_w 266) 3 14 := ⟨by decide +kernel, rfl⟩
theorem dJ6_bitCount_0f7a4_14 : Dn cJ6_bitCount_0f7a4 14 (.iand) 1 15 := ⟨by decide +kernel, rfl⟩
theorem dJ6_bitCount_0f7a4_15 : Dn cJ6_bitCount_0f7a4 15 (.iload_n 0) 1 16 := ⟨by decide +kernel, rfl⟩
theorem dJ6_bitCount_0f7a4_16 : Dn cJ6_bitCount_0f7a4 16 (.iconst 2) 1 17 := ⟨by decide +kernel, rfl⟩
theorem dJ6_bitCount_0f7a4_17 : Dn cJ6_bitCount_0f7a4 17 (.iushr) 1 18 := ⟨by decide +kernel, rfl⟩
theorem dJ6_bitCount_0f7a4_18 : Dn cJ6_bitCount_0f7a4 18 (.ldc_w 266) 3 21 := ⟨by decide +kernel, rfl⟩
theorem dJ6_bitCount_0f7a4_21 : Dn cJ6_bitCount_0f7a4 21 (.iand) 1 22 := ⟨by decide +kernel, rfl⟩
theorem dJ6_bitCount_0f7a4_22 : Dn cJ6_bitCount_0f7a4 22 (.iadd) 1 23 := ⟨by decide +kernel, rfl⟩
theorem dJ6_bitCount_0f7a4_23 : Dn cJ6_bitCount_0f7a4 23 (.istore_n 0) 1 24 := ⟨by decide +kernel, rfl⟩
theorem dJ6_bitCount_0f7a4_24 : Dn cJ6_bitCount_0f7a4 24 (.iload_n 0) 1 25 := ⟨by decide +kernel, rfl⟩
theorem dJ6_bitCount_0f7a4_25 : Dn cJ6_bitCount_0f7a4 25 (.iload_n 0) 1 26 := ⟨by decide +kernel, rfl⟩
theorem dJ6_bitCount_0f7a4_26 : Dn cJ6_bitCount_0f7a4 26 (.iconst 4) 1 27 := ⟨by decide +kernel, rfl⟩
theorem dJ6_bitCount_0f7a4_27 : Dn cJ6_bitCount_0f7a4 27 (.iushr) 1 28 := ⟨by decide +kernel, rfl⟩
theorem dJ6_bitCount_0f7a4_28 : Dn cJ6_bitCount_0f7a4 28 (.iadd) 1 29 := ⟨by decide +kernel, rfl⟩
theorem dJ6_bitCount_0f7a4_29 : Dn cJ6_bitCount_0f7a4 29 (.ldc_w 267) 3 32 := ⟨by decide +kernel, rfl⟩
theorem dJ6_bitCount_0f7a4_32 : Dn cJ6_bitCount_0f7a4 32 (.iand) 1 33 := ⟨by decide +kernel, rfl⟩
theorem dJ6_bitCount_0f7a4_33 : Dn cJ6_bitCount_0f7a4 33 (.istore_n 0) 1 34 := ⟨by decide +kernel, rfl⟩
theorem dJ6_bitCount_0f7a4_34 : Dn cJ6_bitCount_0f7a4 34 (.iload_n 0) 1 35 := ⟨by decide +kernel, rfl⟩
theorem dJ6_bitCount_0f7a4_35 : Dn cJ6_bitCount_0f7a4 35 (.iload_n 0) 1 36 := ⟨by decide +kernel, rfl⟩
theorem dJ6_bitCount_0f7a4_36 : Dn cJ6_bitCount_0f7a4 36 (.bipush 8) 2 38 := ⟨by decide +kernel, rfl⟩
theorem dJ6_bitCount_0f7a4_38 : Dn cJ6_bitCount_0f7a4 38 (.iushr) 1 39 := ⟨by decide +kernel, rfl⟩
theorem dJ6_bitCount_0f7a4_39 : Dn cJ6_bitCount_0f7a4 39 (.iadd) 1 40 := ⟨by decide +kernel, rfl⟩
theorem dJ6_bitCount_0f7a4_40 : Dn cJ6_bitCount_0f7a4 40 (.istore_n 0) 1 41 := ⟨by decide +kernel, rfl⟩
theorem dJ6_bitCount_0f7a4_41 : Dn cJ6_bitCount_0f7a4 41 (.iload_n 0) 1 42 := ⟨by decide +kernel, rfl⟩
theorem dJ6_bitCount_0f7a4_42 : Dn cJ6_bitCount_0f7a4 42 (.iload_n 0) 1 43 := ⟨by decide +kernel, rfl⟩
theorem dJ6_bitCount_0f7a4_43 : Dn cJ6_bitCount_0f7a4 43 (.bipush 16) 2 45 := ⟨by decide +kernel, rfl⟩
theorem dJ6_bitCount_0f7a4_45 : Dn cJ6_bitCount_0f7a4 45 (.iushr) 1 46 := ⟨by decide +kernel, rfl⟩
theorem dJ6_bitCount_0f7a4_46 : Dn cJ6_bitCount_0f7a4 46 (.iadd) 1 47 := ⟨by decide +kernel, rfl⟩
theorem dJ6_bitCount_0f7a4_47 : Dn cJ6_bitCount_0f7a4 47 (.istore_n 0) 1 48 := ⟨by decide +kernel, rfl⟩
theorem dJ6_bitCount_0f7a4_48 : Dn cJ6_bitCount_0f7a4 48 (.iload_n 0) 1 49 := ⟨by decide +kernel, rfl⟩
theorem dJ6_bitCount_0f7a4_49 : Dn cJ6_bitCount_0f7a4 49 (.bipush 63) 2 51 := ⟨by decide +kernel, rfl⟩
theorem dJ6_bitCount_0f7a4_51 : Dn cJ6_bitCount_0f7a4 51 (.iand) 1 52 := ⟨by decide +kernel, rfl⟩
theorem dJ6_bitCount_0f7a4_52 : Dn cJ6_bitCount_0f7a4 52 (.ireturn) 1 53 := ⟨by decide +kernel, rfl⟩
theorem dL_law_0 : Dn cL_law 0 (.new 7) 3 3 := ⟨by decide +kernel, rfl⟩
theorem dL_law_3 : Dn cL_law 3 (.dup) 1 4 := ⟨by decide +kernel, rfl⟩
theorem dL_law_4 : Dn cL_law 4 (.invokespecial 9) 3 7 := ⟨by decide +kernel, rfl⟩
theorem dL_law_7 : Dn cL_law 7 (.astore_n 1) 1 8 := ⟨by decide +kernel, rfl⟩
theorem dL_law_8 : Dn cL_law 8 (.new 10) 3 11 := ⟨by decide +kernel, rfl⟩
theorem dL_law_11 : Dn cL_law 11 (.dup) 1 12 := ⟨by decide +kernel, rfl⟩
theorem dL_law_12 : Dn cL_law 12 (.invokespecial 12) 3 15 := ⟨by decide +kernel, rfl⟩
theorem dL_law_15 : Dn cL_law 15 (.astore_n 2) 1 16 := ⟨by decide +kernel, rfl⟩
theorem dL_law_16 : Dn cL_law 16 (.iconst 0) 1 17 := ⟨by decide +kernel, rfl⟩
theorem dL_law_17 : Dn cL_law 17 (.istore_n 3) 1 18 := ⟨by decide +kernel, rfl⟩
theorem dL_law_18 : Dn cL_law 18 (.iload_n 3) 1 19 := ⟨by decide +kernel, rfl⟩
theorem dL_law_19 : Dn cL_law 19 (.aload_n 0) 1 20 := ⟨by decide +kernel, rfl⟩
theorem dL_law_20 : Dn cL_law 20 (.arraylength) 1 21 := ⟨by decide +kernel, rfl⟩
theorem dL_law_21 : Dn cL_law 21 (.bipush 6) 2 23 := ⟨by decide +kernel, rfl⟩
theorem dL_law_23 : Dn cL_law 23 (.isub) 1 24 := ⟨by decide +kernel, rfl⟩
theorem dL_law_24 : Dj cL_law 24 (fun o => .if_icmp .gt o) (847) 3 27 871 := ⟨by decide +kernel, rfl, by decide⟩
theorem dL_law_27 : Dn cL_law 27 (.aload_n 0) 1 28 := ⟨by decide +kernel, rfl⟩
theorem dL_law_28 : Dn cL_law 28 (.iload_n 3) 1 29 := ⟨by decide +kernel, rfl⟩
theorem dL_law_29 : Dn cL_law 29 (.iaload) 1 30 := ⟨by decide +kernel, rfl⟩
theorem dL_law_30 : Dn cL_law 30 (.bipush 31) 2 32 := ⟨by decide +kernel, rfl⟩
theorem dL_law_32 : Dn cL_law 32 (.iand) 1 33 := ⟨by decide +kernel, rfl⟩
theorem dL_law_33 : Dn cL_law 33 (.tableswitch 832 0 20 #[99, 122, 155, 218, 231, 284, 327, 360, 403, 426, 469, 512, 555, 588, 601, 614, 657, 700, 743, 786, 809]) 99 132 := ⟨by decide +kernel, rfl⟩
theorem dL_law_132 : Dn cL_law 132 (.aload_n 1) 1 133 := ⟨by decide +kernel, rfl⟩
theorem dL_law_133 : Dn cL_law 133 (.aload_n 0) 1 134 := ⟨by decide +kernel, rfl⟩
theorem dL_law_134 : Dn cL_law 134 (.iload_n 3) 1 135 := ⟨by decide +kernel, rfl⟩
theorem dL_law_135 : Dn cL_law 135 (.iconst 1) 1 136 := ⟨by decide +kernel, rfl⟩
theorem dL_law_136 : Dn cL_law 136 (.iadd) 1 137 := ⟨by decide +kernel, rfl⟩
theorem dL_law_137 : Dn cL_law 137 (.iaload) 1 138 := ⟨by decide +kernel, rfl⟩
theorem dL_law_138 : Dn cL_law 138 (.invokevirtual 13) 3 141 := ⟨by decide +kernel, rfl⟩
theorem dL_law_141 : Dn cL_law 141 (.aload_n 2) 1 142 := ⟨by decide +kernel, rfl⟩
theorem dL_law_142 : Dn cL_law 142 (.aload_n 0) 1 143 := ⟨by decide +kernel, rfl⟩
theorem dL_law_143 : Dn cL_law 143 (.iload_n 3) 1 144 := ⟨by decide +kernel, rfl⟩
theorem dL_law_144 : Dn cL_law 144 (.iconst 1) 1 145 := ⟨by decide +kernel, rfl⟩
theorem dL_law_145 : Dn cL_law 145 (.iadd) 1 146 := ⟨by decide +kernel, rfl⟩
theorem dL_law_146 : Dn cL_law 146 (.iaload) 1 147 := ⟨by decide +kernel, rfl⟩
theorem dL_law_147 : Dn cL_law 147 (.invokevirtual 17) 3 150 := ⟨by decide +kernel, rfl⟩
theorem dL_law_150 : Dj cL_law 150 (fun o => .if_icmp .eq o) (715) 3 153 865 := ⟨by decide +kernel, rfl, by decide⟩
theorem dL_law_153 : Dn cL_law 153 (.iconst 0) 1 154 := ⟨by decide +kernel, rfl⟩
theorem dL_law_154 : Dn cL_law 154 (.ireturn) 1 155 := ⟨by decide +kernel, rfl⟩
theorem dL_law_155 : Dn cL_law 155 (.aload_n 1) 1 156 := ⟨by decide +kernel, rfl⟩
theorem dL_law_156 : Dn cL_law 156 (.aload_n 0) 1 157 := ⟨by decide +kernel, rfl⟩
theorem dL_law_157 : Dn cL_law 157 (.iload_n 3) 1 158 := ⟨by decide +kernel, rfl⟩
theorem dL_law_158 : Dn cL_law 158 (.iconst 1) 1 159 := ⟨by decide +kernel, rfl⟩
theorem dL_law_159 : Dn cL_law 159 (.iadd) 1 160 := ⟨by decide +kernel, rfl⟩
theorem dL_law_160 : Dn cL_law 160 (.iaload) 1 161 := ⟨by decide +kernel, rfl⟩
theorem dL_law_161 : Dn cL_law 161 (.aload_n 0) 1 162 := ⟨by decide +kernel, rfl⟩
theorem dL_law_162 : Dn cL_law 162 (.iload_n 3) 1 163 := ⟨by decide +kernel, rfl⟩
theorem dL_law_163 : Dn cL_law 163 (.iconst 2) 1 164 := ⟨by decide +kernel, rfl⟩
theorem dL_law_164 : Dn cL_law 164 (.iadd) 1 165 := ⟨by decide +kernel, rfl⟩
theorem dL_law_165 : Dn cL_law 165 (.iaload) 1 166 := ⟨by decide +kernel, rfl⟩
theorem dL_law_166 : Dn cL_law 166 (.invokevirtual 18) 3 169 := ⟨by decide +kernel, rfl⟩
theorem dL_law_169 : Dn cL_law 169 (.aload_n 2) 1 170 := ⟨by decide +kernel, rfl⟩
theorem dL_law_170 : Dn cL_law 170 (.aload_n 0) 1 171 := ⟨by decide +kernel, rfl⟩
theorem dL_law_171 : Dn cL_law 171 (.iload_n 3) 1 172 := ⟨by decide +kernel, rfl⟩
theorem dL_law_172 : Dn cL_law 172 (.iconst 1) 1 173 := ⟨by decide +kernel, rfl⟩
theorem dL_law_173 : Dn cL_law 173 (.iadd) 1 174 := ⟨by decide +kernel, rfl⟩
theorem dL_law_174 : Dn cL_law 174 (.iaload) 1 175 := ⟨by decide +kernel, rfl⟩
theorem dL_law_175 : Dn cL_law 175 (.aload_n 0) 1 176 := ⟨by decide +kernel, rfl⟩
theorem dL_law_176 : Dn cL_law 176 (.iload_n 3) 1 177 := ⟨by decide +kernel, rfl⟩
theorem dL_law_177 : Dn cL_law 177 (.iconst 2) 1 178 := ⟨by decide +kernel, rfl⟩
theorem dL_law_178 : Dn cL_law 178 (.iadd) 1 179 := ⟨by decide +kernel, rfl⟩
theorem dL_law_179 : Dn cL_law 179 (.iaload) 1 180 := ⟨by decide +kernel, rfl⟩
theorem dL_law_180 : Dn cL_law 180 (.invokevirtual 22) 3 183 := ⟨by decide +kernel, rfl⟩
theorem dL_law_183 : Dj cL_law 183 (fun o => .if_icmp .eq o) (682) 3 186 865 := ⟨by decide +kernel, rfl, by decide⟩
theorem dL_law_186 : Dn cL_law 186 (.iconst 0) 1 187 := ⟨by decide +kernel, rfl⟩
theorem dL_law_187 : Dn cL_law 187 (.ireturn) 1 188 := ⟨by decide +kernel, rfl⟩
theorem dL_law_188 : Dn cL_law 188 (.aload_n 1) 1 189 := ⟨by decide +kernel, rfl⟩
theorem dL_law_189 : Dn cL_law 189 (.aload_n 0) 1 190 := ⟨by decide +kernel, rfl⟩
theorem dL_law_190 : Dn cL_law 190 (.iload_n 3) 1 191 := ⟨by decide +kernel, rfl⟩
theorem dL_law_191 : Dn cL_law 191 (.iconst 1) 1 192 := ⟨by decide +kernel, rfl⟩
theorem dL_law_192 : Dn cL_law 192 (.iadd) 1 193 := ⟨by decide +kernel, rfl⟩
theorem dL_law_193 : Dn cL_law 193 (.iaload) 1 194 := ⟨by decide +kernel, rfl⟩
theorem dL_law_194 : Dn cL_law 194 (.aload_n 0) 1 195 := ⟨by decide +kernel, rfl⟩
theorem dL_law_195 : Dn cL_law 195 (.iload_n 3) 1 196 := ⟨by decide +kernel, rfl⟩
theorem dL_law_196 : Dn cL_law 196 (.iconst 2) 1 197 := ⟨by decide +kernel, rfl⟩
theorem dL_law_197 : Dn cL_law 197 (.iadd) 1 198 := ⟨by decide +kernel, rfl⟩
theorem dL_law_198 : Dn cL_law 198 (.iaload) 1 199 := ⟨by decide +kernel, rfl⟩
theorem dL_law_199 : Dn cL_law 199 (.aload_n 0) 1 200 := ⟨by decide +kernel, rfl⟩
theorem dL_law_200 : Dn cL_law 200 (.iload_n 3) 1 201 := ⟨by decide +kernel, rfl⟩
theorem dL_law_201 : Dn cL_law 201 (.iconst 3) 1 202 := ⟨by decide +kernel, rfl⟩
theorem dL_law_202 : Dn cL_law 202 (.iadd) 1 203 := ⟨by decide +kernel, rfl⟩
theorem dL_law_203 : Dn cL_law 203 (.iaload) 1 204 := ⟨by decide +kernel, rfl⟩
theorem dL_law_204 : Dn cL_law 204 (.aload_n 0) 1 205 := ⟨by decide +kernel, rfl⟩
theorem dL_law_205 : Dn cL_law 205 (.iload_n 3) 1 206 := ⟨by decide +kernel, rfl⟩
theorem dL_law_206 : Dn cL_law 206 (.iconst 4) 1 207 := ⟨by decide +kernel, rfl⟩
theorem dL_law_207 : Dn cL_law 207 (.iadd) 1 208 := ⟨by decide +kernel, rfl⟩
theorem dL_law_208 : Dn cL_law 208 (.iaload) 1 209 := ⟨by decide +kernel, rfl⟩
theorem dL_law_209 : Dn cL_law 209 (.aload_n 0) 1 210 := ⟨by decide +kernel, rfl⟩
theorem dL_law_210 : Dn cL_law 210 (.iload_n 3) 1 211 := ⟨by decide +kernel, rfl⟩
theorem dL_law_211 : Dn cL_law 211 (.iconst 5) 1 212 := ⟨by decide +kernel, rfl⟩
theorem dL_law_212 : Dn cL_law 212 (.iadd) 1 213 := ⟨by decide +kernel, rfl⟩
theorem dL_law_213 : Dn cL_law 213 (.iaload) 1 214 := ⟨by decide +kernel, rfl⟩
theorem dL_law_214 : Dn cL_law 214 (.invokevirtual 23) 3 217 := ⟨by decide +kernel, rfl⟩
theorem dL_law_217 : Dn cL_law 217 (.aload_n 2) 1 218 := ⟨by decide +kernel, rfl⟩
theorem dL_law_218 : Dn cL_law 218 (.aload_n 0) 1 219 := ⟨by decide +kernel, rfl⟩
theorem dL_law_219 : Dn cL_law 219 (.iload_n 3) 1 220 := ⟨by decide +kernel, rfl⟩
theorem dL_law_220 : Dn cL_law 220 (.iconst 1) 1 221 := ⟨by decide +kernel, rfl⟩
theorem dL_law_221 : Dn cL_law 221 (.iadd) 1 222 := ⟨by decide +kernel, rfl⟩
theorem dL_law_222 : Dn cL_law 222 (.iaload) 1 223 := ⟨by decide +kernel, rfl⟩
theorem dL_law_223 : Dn cL_law 223 (.aload_n 0) 1 224 := ⟨by decide +kernel, rfl⟩
theorem dL_law_224 : Dn cL_law 224 (.iload_n 3) 1 225 := ⟨by decide +kernel, rfl⟩
theorem dL_law_225 : Dn cL_law 225 (.iconst 2) 1 226 := ⟨by decide +kernel, rfl⟩
theorem dL_law_226 : Dn cL_law 226 (.iadd) 1 227 := ⟨by decide +kernel, rfl⟩
theorem dL_law_227 : Dn cL_law 227 (.iaload) 1 228 := ⟨by decide +kernel, rfl⟩
theorem dL_law_228 : Dn cL_law 228 (.aload_n 0) 1 229 := ⟨by decide +kernel, rfl⟩
theorem dL_law_229 : Dn cL_law 229 (.iload_n 3) 1 230 := ⟨by decide +kernel, rfl⟩
theorem dL_law_230 : Dn cL_law 230 (.iconst 3) 1 231 := ⟨by decide +kernel, rfl⟩
theorem dL_law_231 : Dn cL_law 231 (.iadd) 1 232 := ⟨by decide +kernel, rfl⟩
theorem dL_law_232 : Dn cL_law 232 (.iaload) 1 233 := ⟨by decide +kernel, rfl⟩
theorem dL_law_233 : Dn cL_law 233 (.aload_n 0) 1 234 := ⟨by decide +kernel, rfl⟩
theorem dL_law_234 : Dn cL_law 234 (.iload_n 3) 1 235 := ⟨by decide +kernel, rfl⟩
theorem dL_law_235 : Dn cL_law 235 (.iconst 4) 1 236 := ⟨by decide +kernel, rfl⟩
theorem dL_law_236 : Dn cL_law 236 (.iadd) 1 237 := ⟨by decide +kernel, rfl⟩
theorem dL_law_237 : Dn cL_law 237 (.iaload) 1 238 := ⟨by decide +kernel, rfl⟩
theorem dL_law_238 : Dn cL_law 238 (.aload_n 0) 1 239 := ⟨by decide +kernel, rfl⟩
theorem dL_law_239 : Dn cL_law 239 (.iload_n 3) 1 240 := ⟨by decide +kernel, rfl⟩
theorem dL_law_240 : Dn cL_law 240 (.iconst 5) 1 241 := ⟨by decide +kernel, rfl⟩
theorem dL_law_241 : Dn cL_law 241 (.iadd) 1 242 := ⟨by decide +kernel, rfl⟩
theorem dL_law_242 : Dn cL_law 242 (.iaload) 1 243 := ⟨by decide +kernel, rfl⟩
theorem dL_law_243 : Dn cL_law 243 (.invokevirtual 27) 3 246 := ⟨by decide +kernel, rfl⟩
theorem dL_law_246 : Dj cL_law 246 (fun o => .if_icmp .eq o) (619) 3 249 865 := ⟨by decide +kernel, rfl, by decide⟩
theorem dL_law_249 : Dn cL_law 249 (.iconst 0) 1 250 := ⟨by decide +kernel, rfl⟩
theorem dL_law_250 : Dn cL_law 250 (.ireturn) 1 251 := ⟨by decide +kernel, rfl⟩
theorem dL_law_251 : Dn cL_law 251 (.aload_n 1) 1 252 := ⟨by decide +kernel, rfl⟩
theorem dL_law_252 : Dn cL_law 252 (.invokevirtual 28) 3 255 := ⟨by decide +kernel, rfl⟩
theorem dL_law_255 : Dn cL_law 255 (.aload_n 2) 1 256 := ⟨by decide +kernel, rfl⟩
theorem dL_law_256 : Dn cL_law 256 (.invokevirtual 32) 3 259 := ⟨by decide +kernel, rfl⟩
theorem dL_law_259 : Dj cL_law 259 (fun o => .if_icmp .eq o) (606) 3 262 865 := ⟨by decide +kernel, rfl, by decide⟩
theorem dL_law_262 : Dn cL_law 262 (.iconst 0) 1 263 := ⟨by decide +kernel, rfl⟩
theorem dL_law_263 : Dn cL_law 263 (.ireturn) 1 264 := ⟨by decide +kernel, rfl⟩
theorem dL_law_264 : Dn cL_law 264 (.aload_n 1) 1 265 := ⟨by decide +kernel, rfl⟩
theorem dL_law_265 : Dn cL_law 265 (.aload_n 0) 1 266 := ⟨by decide +kernel, rfl⟩
theorem dL_law_266 : Dn cL_law 266 (.iload_n 3) 1 267 := ⟨by decide +kernel, rfl⟩
theorem dL_law_267 : Dn cL_law 267 (.iconst 1) 1 268 := ⟨by decide +kernel, rfl⟩
theorem dL_law_268 : Dn cL_law 268 (.iadd) 1 269 := ⟨by decide +kernel, rfl⟩
theorem dL_law_269 : Dn cL_law 269 (.iaload) 1 270 := ⟨by decide +kernel, rfl⟩
theorem dL_law_270 : Dn cL_law 270 (.aload_n 0) 1 271 := ⟨by decide +kernel, rfl⟩
theorem dL_law_271 : Dn cL_law 271 (.iload_n 3) 1 272 := ⟨by decide +kernel, rfl⟩
theorem dL_law_272 : Dn cL_law 272 (.iconst 2) 1 273 := ⟨by decide +kernel, rfl⟩
theorem dL_law_273 : Dn cL_law 273 (.iadd) 1 274 := ⟨by decide +kernel, rfl⟩
theorem dL_law_274 : Dn cL_law 274 (.iaload) 1 275 := ⟨by decide +kernel, rfl⟩
theorem dL_law_275 : Dn cL_law 275 (.aload_n 0) 1 276 := ⟨by decide +kernel, rfl⟩
theorem dL_law_276 : Dn cL_law 276 (.iload_n 3) 1 277 := ⟨by decide +kernel, rfl⟩
theorem dL_law_277 : Dn cL_law 277 (.iconst 3) 1 278 := ⟨by decide +kernel, rfl⟩
theorem dL_law_278 : Dn cL_law 278 (.iadd) 1 279 := ⟨by decide +kernel, rfl⟩
theorem dL_law_279 : Dn cL_law 279 (.iaload) 1 280 := ⟨by decide +kernel, rfl⟩
theorem dL_law_280 : Dn cL_law 280 (.aload_n 0) 1 281 := ⟨by decide +kernel, rfl⟩
theorem dL_law_281 : Dn cL_law 281 (.iload_n 3) 1 282 := ⟨by decide +kernel, rfl⟩
theorem dL_law_282 : Dn cL_law 282 (.iconst 4) 1 283 := ⟨by decide +kernel, rfl⟩
theorem dL_law_283 : Dn cL_law 283 (.iadd) 1 284 := ⟨by decide +kernel, rfl⟩
theorem dL_law_284 : Dn cL_law 284 (.iaload) 1 285 := ⟨by decide +kernel, rfl⟩
theorem dL_law_285 : Dn cL_law 285 (.invokevirtual 33) 3 288 := ⟨by decide +kernel, rfl⟩
theorem dL_law_288 : Dn cL_law 288 (.aload_n 2) 1 289 := ⟨by decide +kernel, rfl⟩
theorem dL_law_289 : Dn cL_law 289 (.aload_n 0) 1 290 := ⟨by decide +kernel, rfl⟩
theorem dL_law_290 : Dn cL_law 290 (.iload_n 3) 1 291 := ⟨by decide +kernel, rfl⟩
theorem dL_law_291 : Dn cL_law 291 (.iconst 1) 1 292 := ⟨by decide +kernel, rfl⟩
theorem dL_law_292 : Dn cL_law 292 (.iadd) 1 293 := ⟨by decide +kernel, rfl⟩
theorem dL_law_293 : Dn cL_law 293 (.iaload) 1 294 := ⟨by decide +kernel, rfl⟩
theorem dL_law_294 : Dn cL_law 294 (.aload_n 0) 1 295 := ⟨by decide +kernel, rfl⟩
theorem dL_law_295 : Dn cL_law 295 (.iload_n 3) 1 296 := ⟨by decide +kernel, rfl⟩
theorem dL_law_296 : Dn cL_law 296 (.iconst 2) 1 297 := ⟨by decide +kernel, rfl⟩
theorem dL_law_297 : Dn cL_law 297 (.iadd) 1 298 := ⟨by decide +kernel, rfl⟩
theorem dL_law_298 : Dn cL_law 298 (.iaload) 1 299 := ⟨by decide +kernel, rfl⟩
theorem dL_law_299 : Dn cL_law 299 (.aload_n 0) 1 300 := ⟨by decide +kernel, rfl⟩
theorem dL_law_300 : Dn cL_law 300 (.iload_n 3) 1 301 := ⟨by decide +kernel, rfl⟩
theorem dL_law_301 : Dn cL_law 301 (.iconst 3) 1 302 := ⟨by decide +kernel, rfl⟩
theorem dL_law_302 : Dn cL_law 302 (.iadd) 1 303 := ⟨by decide +kernel, rfl⟩
theorem dL_law_303 : Dn cL_law 303 (.iaload) 1 304 := ⟨by decide +kernel, rfl⟩
theorem dL_law_304 : Dn cL_law 304 (.aload_n 0) 1 305 := ⟨by decide +kernel, rfl⟩
theorem dL_law_305 : Dn cL_law 305 (.iload_n 3) 1 306 := ⟨by decide +kernel, rfl⟩
theorem dL_law_306 : Dn cL_law 306 (.iconst 4) 1 307 := ⟨by decide +kernel, rfl⟩
theorem dL_law_307 : Dn cL_law 307 (.iadd) 1 308 := ⟨by decide +kernel, rfl⟩
theorem dL_law_308 : Dn cL_law 308 (.iaload) 1 309 := ⟨by decide +kernel, rfl⟩
theorem dL_law_309 : Dn cL_law 309 (.invokevirtual 37) 3 312 := ⟨by decide +kernel, rfl⟩
theorem dL_law_312 : Dj cL_law 312 (fun o => .if_icmp .eq o) (553) 3 315 865 := ⟨by decide +kernel, rfl, by decide⟩
theorem dL_law_315 : Dn cL_law 315 (.iconst 0) 1 316 := ⟨by decide +kernel, rfl⟩
theorem dL_law_316 : Dn cL_law 316 (.ireturn) 1 317 := ⟨by decide +kernel, rfl⟩
theorem dL_law_317 : Dn cL_law 317 (.aload_n 1) 1 318 := ⟨by decide +kernel, rfl⟩
theorem dL_law_318 : Dn cL_law 318 (.aload_n 0) 1 319 := ⟨by decide +kernel, rfl⟩
theorem dL_law_319 : Dn cL_law 319 (.iload_n 3) 1 320 := ⟨by decide +kernel, rfl⟩
theorem dL_law_320 : Dn cL_law 320 (.iconst 1) 1 321 := ⟨by decide +kernel, rfl⟩
theorem dL_law_321 : Dn cL_law 321 (.iadd) 1 322 := ⟨by decide +kernel, rfl⟩
theorem dL_law_322 : Dn cL_law 322 (.iaload) 1 323 := ⟨by decide +kernel, rfl⟩
theorem dL_law_323 : Dn cL_law 323 (.aload_n 0) 1 324 := ⟨by decide +kernel, rfl⟩
theorem dL_law_324 : Dn cL_law 324 (.iload_n 3) 1 325 := ⟨by decide +kernel, rfl⟩
theorem dL_law_325 : Dn cL_law 325 (.iconst 2) 1 326 := ⟨by decide +kernel, rfl⟩
theorem dL_law_326 : Dn cL_law 326 (.iadd) 1 327 := ⟨by decide +kernel, rfl⟩
theorem dL_law_327 : Dn cL_law 327 (.iaload) 1 328 := ⟨by decide +kernel, rfl⟩
theorem dL_law_328 : Dn cL_law 328 (.aload_n 0) 1 329 := ⟨by decide +kernel, rfl⟩
theorem dL_law_329 : Dn cL_law 329 (.iload_n 3) 1 330 := ⟨by decide +kernel, rfl⟩
theorem dL_law_330 : Dn cL_law 330 (.iconst 3) 1 331 := ⟨by decide +kernel, rfl⟩
theorem dL_law_331 : Dn cL_law 331 (.iadd) 1 332 := ⟨by decide +kernel, rfl⟩
theorem dL_law_332 : Dn cL_law 332 (.iaload) 1 333 := ⟨by decide +kernel, rfl⟩
theorem dL_law_333 : Dn cL_law 333 (.invokevirtual 38) 3 336 := ⟨by decide +kernel, rfl⟩
theorem dL_law_336 : Dn cL_law 336 (.aload_n 2) 1 337 := ⟨by decide +kernel, rfl⟩
theorem dL_law_337 : Dn cL_law 337 (.aload_n 0) 1 338 := ⟨by decide +kernel, rfl⟩
theorem dL_law_338 : Dn cL_law 338 (.iload_n 3) 1 339 := ⟨by decide +kernel, rfl⟩
theorem dL_law_339 : Dn cL_law 339 (.iconst 1) 1 340 := ⟨by decide +kernel, rfl⟩
theorem dL_law_340 : Dn cL_law 340 (.iadd) 1 341 := ⟨by decide +kernel, rfl⟩
theorem dL_law_341 : Dn cL_law 341 (.iaload) 1 342 := ⟨by decide +kernel, rfl⟩
theorem dL_law_342 : Dn cL_law 342 (.aload_n 0) 1 343 := ⟨by decide +kernel, rfl⟩
theorem dL_law_343 : Dn cL_law 343 (.iload_n 3) 1 344 := ⟨by decide +kernel, rfl⟩
theorem dL_law_344 : Dn cL_law 344 (.iconst 2) 1 345 := ⟨by decide +kernel, rfl⟩
theorem dL_law_345 : Dn cL_law 345 (.iadd) 1 346 := ⟨by decide +kernel, rfl⟩
theorem dL_law_346 : Dn cL_law 346 (.iaload) 1 347 := ⟨by decide +kernel, rfl⟩
theorem dL_law_347 : Dn cL_law 347 (.aload_n 0) 1 348 := ⟨by decide +kernel, rfl⟩
theorem dL_law_348 : Dn cL_law 348 (.iload_n 3) 1 349 := ⟨by decide +kernel, rfl⟩
theorem dL_law_349 : Dn cL_law 349 (.iconst 3) 1 350 := ⟨by decide +kernel, rfl⟩
theorem dL_law_350 : Dn cL_law 350 (.iadd) 1 351 := ⟨by decide +kernel, rfl⟩
theorem dL_law_351 : Dn cL_law 351 (.iaload) 1 352 := ⟨by decide +kernel, rfl⟩
theorem dL_law_352 : Dn cL_law 352 (.invokevirtual 42) 3 355 := ⟨by decide +kernel, rfl⟩
theorem dL_law_355 : Dj cL_law 355 (fun o => .if_icmp .eq o) (510) 3 358 865 := ⟨by decide +kernel, rfl, by decide⟩
theorem dL_law_358 : Dn cL_law 358 (.iconst 0) 1 359 := ⟨by decide +kernel, rfl⟩
theorem dL_law_359 : Dn cL_law 359 (.ireturn) 1 360 := ⟨by decide +kernel, rfl⟩
theorem dL_law_360 : Dn cL_law 360 (.aload_n 1) 1 361 := ⟨by decide +kernel, rfl⟩
theorem dL_law_361 : Dn cL_law 361 (.aload_n 0) 1 362 := ⟨by decide +kernel, rfl⟩
theorem dL_law_362 : Dn cL_law 362 (.iload_n 3) 1 363 := ⟨by decide +kernel, rfl⟩
theorem dL_law_363 : Dn cL_law 363 (.iconst 1) 1 364 := ⟨by decide +kernel, rfl⟩
theorem dL_law_364 : Dn cL_law 364 (.iadd) 1 365 := ⟨by decide +kernel, rfl⟩
theorem dL_law_365 : Dn cL_law 365 (.iaload) 1 366 := ⟨by decide +kernel, rfl⟩
theorem dL_law_366 : Dn cL_law 366 (.aload_n 0) 1 367 := ⟨by decide +kernel, rfl⟩
theorem dL_law_367 : Dn cL_law 367 (.iload_n 3) 1 368 := ⟨by decide +kernel, rfl⟩
theorem dL_law_368 : Dn cL_law 368 (.iconst 2) 1 369 := ⟨by decide +kernel, rfl⟩
theorem dL_law_369 : Dn cL_law 369 (.iadd) 1 370 := ⟨by decide +kernel, rfl⟩
theorem dL_law_370 : Dn cL_law 370 (.iaload) 1 371 := ⟨by decide +kernel, rfl⟩
theorem dL_law_371 : Dn cL_law 371 (.invokevirtual 43) 3 374 := ⟨by decide +kernel, rfl⟩
theorem dL_law_374 : Dn cL_law 374 (.aload_n 2) 1 375 := ⟨by decide +kernel, rfl⟩
theorem dL_law_375 : Dn cL_law 375 (.aload_n 0) 1 376 := ⟨by decide +kernel, rfl⟩
theorem dL_law_376 : Dn cL_law 376 (.iload_n 3) 1 377 := ⟨by decide +kernel, rfl⟩
theorem dL_law_377 : Dn cL_law 377 (.iconst 1) 1 378 := ⟨by decide +kernel, rfl⟩
theorem dL_law_378 : Dn cL_law 378 (.iadd) 1 379 := ⟨by decide +kernel, rfl⟩
theorem dL_law_379 : Dn cL_law 379 (.iaload) 1 380 := ⟨by decide +kernel, rfl⟩
theorem dL_law_380 : Dn cL_law 380 (.aload_n 0) 1 381 := ⟨by decide +kernel, rfl⟩
theorem dL_law_381 : Dn cL_law 381 (.iload_n 3) 1 382 := ⟨by decide +kernel, rfl⟩
theorem dL_law_382 : Dn cL_law 382 (.iconst 2) 1 383 := ⟨by decide +kernel, rfl⟩
theorem dL_law_383 : Dn cL_law 383 (.iadd) 1 384 := ⟨by decide +kernel, rfl⟩
theorem dL_law_384 : Dn cL_law 384 (.iaload) 1 385 := ⟨by decide +kernel, rfl⟩
theorem dL_law_385 : Dn cL_law 385 (.invokevirtual 46) 3 388 := ⟨by decide +kernel, rfl⟩
theorem dL_law_388 : Dj cL_law 388 (fun o => .if_icmp .eq o) (477) 3 391 865 := ⟨by decide +kernel, rfl, by decide⟩
theorem dL_law_391 : Dn cL_law 391 (.iconst 0) 1 392 := ⟨by decide +kernel, rfl⟩
theorem dL_law_392 : Dn cL_law 392 (.ireturn) 1 393 := ⟨by decide +kernel, rfl⟩
theorem dL_law_393 : Dn cL_law 393 (.aload_n 1) 1 394 := ⟨by decide +kernel, rfl⟩
theorem dL_law_394 : Dn cL_law 394 (.aload_n 0) 1 395 := ⟨by decide +kernel, rfl⟩
theorem dL_law_395 : Dn cL_law 395 (.iload_n 3) 1 396 := ⟨by decide +kernel, rfl⟩
theorem dL_law_396 : Dn cL_law 396 (.iconst 1) 1 397 := ⟨by decide +kernel, rfl⟩
theorem dL_law_397 : Dn cL_law 397 (.iadd) 1 398 := ⟨by decide +kernel, rfl⟩
theorem dL_law_398 : Dn cL_law 398 (.iaload) 1 399 := ⟨by decide +kernel, rfl⟩
theorem dL_law_399 : Dn cL_law 399 (.aload_n 0) 1 400 := ⟨by decide +kernel, rfl⟩
theorem dL_law_400 : Dn cL_law 400 (.iload_n 3) 1 401 := ⟨by decide +kernel, rfl⟩
theorem dL_law_401 : Dn cL_law 401 (.iconst 2) 1 402 := ⟨by decide +kernel, rfl⟩
theorem dL_law_402 : Dn cL_law 402 (.iadd) 1 403 := ⟨by decide +kernel, rfl⟩
theorem dL_law_403 : Dn cL_law 403 (.iaload) 1 404 := ⟨by decide +kernel, rfl⟩
theorem dL_law_404 : Dn cL_law 404 (.aload_n 0) 1 405 := ⟨by decide +kernel, rfl⟩
theorem dL_law_405 : Dn cL_law 405 (.iload_n 3) 1 406 := ⟨by decide +kernel, rfl⟩
theorem dL_law_406 : Dn cL_law 406 (.iconst 3) 1 407 := ⟨by decide +kernel, rfl⟩
theorem dL_law_407 : Dn cL_law 407 (.iadd) 1 408 := ⟨by decide +kernel, rfl⟩
theorem dL_law_408 : Dn cL_law 408 (.iaload) 1 409 := ⟨by decide +kernel, rfl⟩
theorem dL_law_409 : Dn cL_law 409 (.invokevirtual 47) 3 412 := ⟨by decide +kernel, rfl⟩
theorem dL_law_412 : Dn cL_law 412 (.aload_n 2) 1 413 := ⟨by decide +kernel, rfl⟩
theorem dL_law_413 : Dn cL_law 413 (.aload_n 0) 1 414 := ⟨by decide +kernel, rfl⟩
theorem dL_law_414 : Dn cL_law 414 (.iload_n 3) 1 415 := ⟨by decide +kernel, rfl⟩
theorem dL_law_415 : Dn cL_law 415 (.iconst 1) 1 416 := ⟨by decide +kernel, rfl⟩
theorem dL_law_416 : Dn cL_law 416 (.iadd) 1 417 := ⟨by decide +kernel, rfl⟩
theorem dL_law_417 : Dn cL_law 417 (.iaload) 1 418 := ⟨by decide +kernel, rfl⟩
theorem dL_law_418 : Dn cL_law 418 (.aload_n 0) 1 419 := ⟨by decide +kernel, rfl⟩
theorem dL_law_419 : Dn cL_law 419 (.iload_n 3) 1 420 := ⟨by decide +kernel, rfl⟩
theorem dL_law_420 : Dn cL_law 420 (.iconst 2) 1 421 := ⟨by decide +kernel, rfl⟩
theorem dL_law_421 : Dn cL_law 421 (.iadd) 1 422 := ⟨by decide +kernel, rfl⟩
theorem dL_law_422 : Dn cL_law 422 (.iaload) 1 423 := ⟨by decide +kernel, rfl⟩
theorem dL_law_423 : Dn cL_law 423 (.aload_n 0) 1 424 := ⟨by decide +kernel, rfl⟩
theorem dL_law_424 : Dn cL_law 424 (.iload_n 3) 1 425 := ⟨by decide +kernel, rfl⟩
theorem dL_law_425 : Dn cL_law 425 (.iconst 3) 1 426 := ⟨by decide +kernel, rfl⟩
theorem dL_law_426 : Dn cL_law 426 (.iadd) 1 427 := ⟨by decide +kernel, rfl⟩
theorem dL_law_427 : Dn cL_law 427 (.iaload) 1 428 := ⟨by decide +kernel, rfl⟩
theorem dL_law_428 : Dn cL_law 428 (.invokevirtual 50) 3 431 := ⟨by decide +kernel, rfl⟩
theorem dL_law_431 : Dj cL_law 431 (fun o => .if_icmp .eq o) (434) 3 434 865 := ⟨by decide +kernel, rfl, by decide⟩
theorem dL_law_434 : Dn cL_law 434 (.iconst 0) 1 435 := ⟨by decide +kernel, rfl⟩
theorem dL_law_435 : Dn cL_law 435 (.ireturn) 1 436 := ⟨by decide +kernel, rfl⟩
theorem dL_law_436 : Dn cL_law 436 (.aload_n 1) 1 437 := ⟨by decide +kernel, rfl⟩
theorem dL_law_437 : Dn cL_law 437 (.aload_n 0) 1 438 := ⟨by decide +kernel, rfl⟩
theorem dL_law_438 : Dn cL_law 438 (.iload_n 3) 1 439 := ⟨by decide +kernel, rfl⟩
theorem dL_law_439 : Dn cL_law 439 (.iconst 1) 1 440 := ⟨by decide +kernel, rfl⟩
theorem dL_law_440 : Dn cL_law 440 (.iadd) 1 441 := ⟨by decide +kernel, rfl⟩
theorem dL_law_441 : Dn cL_law 441 (.iaload) 1 442 := ⟨by decide +kernel, rfl⟩
theorem dL_law_442 : Dn cL_law 442 (.invokevirtual 51) 3 445 := ⟨by decide +kernel, rfl⟩
theorem dL_law_445 : Dn cL_law 445 (.aload_n 2) 1 446 := ⟨by decide +kernel, rfl⟩
theorem dL_law_446 : Dn cL_law 446 (.aload_n 0) 1 447 := ⟨by decide +kernel, rfl⟩
theorem dL_law_447 : Dn cL_law 447 (.iload_n 3) 1 448 := ⟨by decide +kernel, rfl⟩
theorem dL_law_448 : Dn cL_law 448 (.iconst 1) 1 449 := ⟨by decide +kernel, rfl⟩
theorem dL_law_449 : Dn cL_law 449 (.iadd) 1 450 := ⟨by decide +kernel, rfl⟩
theorem dL_law_450 : Dn cL_law 450 (.iaload) 1 451 := ⟨by decide +kernel, rfl⟩
theorem dL_law_451 : Dn cL_law 451 (.invokevirtual 54) 3 454 := ⟨by decide +kernel, rfl⟩
theorem dL_law_454 : Dj cL_law 454 (fun o => .if_icmp .eq o) (411) 3 457 865 := ⟨by decide +kernel, rfl, by decide⟩
theorem dL_law_457 : Dn cL_law 457 (.iconst 0) 1 458 := ⟨by decide +kernel, rfl⟩
theorem dL_law_458 : Dn cL_law 458 (.ireturn) 1 459 := ⟨by decide +kernel, rfl⟩
theorem dL_law_459 : Dn cL_law 459 (.aload_n 1) 1 460 := ⟨by decide +kernel, rfl⟩
theorem dL_law_460 : Dn cL_law 460 (.aload_n 0) 1 461 := ⟨by decide +kernel, rfl⟩
theorem dL_law_461 : Dn cL_law 461 (.iload_n 3) 1 462 := ⟨by decide +kernel, rfl⟩
theorem dL_law_462 : Dn cL_law 462 (.iconst 1) 1 463 := ⟨by decide +kernel, rfl⟩
theorem dL_law_463 : Dn cL_law 463 (.iadd) 1 464 := ⟨by decide +kernel, rfl⟩
theorem dL_law_464 : Dn cL_law 464 (.iaload) 1 465 := ⟨by decide +kernel, rfl⟩
theorem dL_law_465 : Dn cL_law 465 (.aload_n 0) 1 466 := ⟨by decide +kernel, rfl⟩
theorem dL_law_466 : Dn cL_law 466 (.iload_n 3) 1 467 := ⟨by decide +kernel, rfl⟩
theorem dL_law_467 : Dn cL_law 467 (.iconst 2) 1 468 := ⟨by decide +kernel, rfl⟩
theorem dL_law_468 : Dn cL_law 468 (.iadd) 1 469 := ⟨by decide +kernel, rfl⟩
theorem dL_law_469 : Dn cL_law 469 (.iaload) 1 470 := ⟨by decide +kernel, rfl⟩
theorem dL_law_470 : Dn cL_law 470 (.aload_n 0) 1 471 := ⟨by decide +kernel, rfl⟩
theorem dL_law_471 : Dn cL_law 471 (.iload_n 3) 1 472 := ⟨by decide +kernel, rfl⟩
theorem dL_law_472 : Dn cL_law 472 (.iconst 3) 1 473 := ⟨by decide +kernel, rfl⟩
theorem dL_law_473 : Dn cL_law 473 (.iadd) 1 474 := ⟨by decide +kernel, rfl⟩
theorem dL_law_474 : Dn cL_law 474 (.iaload) 1 475 := ⟨by decide +kernel, rfl⟩
theorem dL_law_475 : Dn cL_law 475 (.invokevirtual 55) 3 478 := ⟨by decide +kernel, rfl⟩
theorem dL_law_478 : Dn cL_law 478 (.aload_n 2) 1 479 := ⟨by decide +kernel, rfl⟩
theorem dL_law_479 : Dn cL_law 479 (.aload_n 0) 1 480 := ⟨by decide +kernel, rfl⟩
theorem dL_law_480 : Dn cL_law 480 (.iload_n 3) 1 481 := ⟨by decide +kernel, rfl⟩
theorem dL_law_481 : Dn cL_law 481 (.iconst 1) 1 482 := ⟨by decide +kernel, rfl⟩
theorem dL_law_482 : Dn cL_law 482 (.iadd) 1 483 := ⟨by decide +kernel, rfl⟩
theorem dL_law_483 : Dn cL_law 483 (.iaload) 1 484 := ⟨by decide +kernel, rfl⟩
theorem dL_law_484 : Dn cL_law 484 (.aload_n 0) 1 485 := ⟨by decide +kernel, rfl⟩
theorem dL_law_485 : Dn cL_law 485 (.iload_n 3) 1 486 := ⟨by decide +kernel, rfl⟩
theorem dL_law_486 : Dn cL_law 486 (.iconst 2) 1 487 := ⟨by decide +kernel, rfl⟩
theorem dL_law_487 : Dn cL_law 487 (.iadd) 1 488 := ⟨by decide +kernel, rfl⟩
theorem dL_law_488 : Dn cL_law 488 (.iaload) 1 489 := ⟨by decide +kernel, rfl⟩
theorem dL_law_489 : Dn cL_law 489 (.aload_n 0) 1 490 := ⟨by decide +kernel, rfl⟩
theorem dL_law_490 : Dn cL_law 490 (.iload_n 3) 1 491 := ⟨by decide +kernel, rfl⟩
theorem dL_law_491 : Dn cL_law 491 (.iconst 3) 1 492 := ⟨by decide +kernel, rfl⟩
theorem dL_law_492 : Dn cL_law 492 (.iadd) 1 493 := ⟨by decide +kernel, rfl⟩
theorem dL_law_493 : Dn cL_law 493 (.iaload) 1 494 := ⟨by decide +kernel, rfl⟩
theorem dL_law_494 : Dn cL_law 494 (.invokevirtual 58) 3 497 := ⟨by decide +kernel, rfl⟩
theorem dL_law_497 : Dj cL_law 497 (fun o => .if_icmp .eq o) (368) 3 500 865 := ⟨by decide +kernel, rfl, by decide⟩
theorem dL_law_500 : Dn cL_law 500 (.iconst 0) 1 501 := ⟨by decide +kernel, rfl⟩
theorem dL_law_501 : Dn cL_law 501 (.ireturn) 1 502 := ⟨by decide +kernel, rfl⟩
theorem dL_law_502 : Dn cL_law 502 (.aload_n 1) 1 503 := ⟨by decide +kernel, rfl⟩
theorem dL_law_503 : Dn cL_law 503 (.aload_n 0) 1 504 := ⟨by decide +kernel, rfl⟩
theorem dL_law_504 : Dn cL_law 504 (.iload_n 3) 1 505 := ⟨by decide +kernel, rfl⟩
theorem dL_law_505 : Dn cL_law 505 (.iconst 1) 1 506 := ⟨by decide +kernel, rfl⟩
theorem dL_law_506 : Dn cL_law 506 (.iadd) 1 507 := ⟨by decide +kernel, rfl⟩
theorem dL_law_507 : Dn cL_law 507 (.iaload) 1 508 := ⟨by decide +kernel, rfl⟩
theorem dL_law_508 : Dn cL_law 508 (.aload_n 0) 1 509 := ⟨by decide +kernel, rfl⟩
theorem dL_law_509 : Dn cL_law 509 (.iload_n 3) 1 510 := ⟨by decide +kernel, rfl⟩
theorem dL_law_510 : Dn cL_law 510 (.iconst 2) 1 511 := ⟨by decide +kernel, rfl⟩
theorem dL_law_511 : Dn cL_law 511 (.iadd) 1 512 := ⟨by decide +kernel, rfl⟩
theorem dL_law_512 : Dn cL_law 512 (.iaload) 1 513 := ⟨by decide +kernel, rfl⟩
theorem dL_law_513 : Dn cL_law 513 (.aload_n 0) 1 514 := ⟨by decide +kernel, rfl⟩
theorem dL_law_514 : Dn cL_law 514 (.iload_n 3) 1 515 := ⟨by decide +kernel, rfl⟩
theorem dL_law_515 : Dn cL_law 515 (.iconst 3) 1 516 := ⟨by decide +kernel, rfl⟩
theorem dL_law_516 : Dn cL_law 516 (.iadd) 1 517 := ⟨by decide +kernel, rfl⟩
theorem dL_law_517 : Dn cL_law 517 (.iaload) 1 518 := ⟨by decide +kernel, rfl⟩
theorem dL_law_518 : Dn cL_law 518 (.invokevirtual 59) 3 521 := ⟨by decide +kernel, rfl⟩
theorem dL_law_521 : Dn cL_law 521 (.aload_n 2) 1 522 := ⟨by decide +kernel, rfl⟩
theorem dL_law_522 : Dn cL_law 522 (.aload_n 0) 1 523 := ⟨by decide +kernel, rfl⟩
theorem dL_law_523 : Dn cL_law 523 (.iload_n 3) 1 524 := ⟨by decide +kernel, rfl⟩
theorem dL_law_524 : Dn cL_law 524 (.iconst 1) 1 525 := ⟨by decide +kernel, rfl⟩
theorem dL_law_525 : Dn cL_law 525 (.iadd) 1 526 := ⟨by decide +kernel, rfl⟩
theorem dL_law_526 : Dn cL_law 526 (.iaload) 1 527 := ⟨by decide +kernel, rfl⟩
theorem dL_law_527 : Dn cL_law 527 (.aload_n 0) 1 528 := ⟨by decide +kernel, rfl⟩
theorem dL_law_528 : Dn cL_law 528 (.iload_n 3) 1 529 := ⟨by decide +kernel, rfl⟩
theorem dL_law_529 : Dn cL_law 529 (.iconst 2) 1 530 := ⟨by decide +kernel, rfl⟩
theorem dL_law_530 : Dn cL_law 530 (.iadd) 1 531 := ⟨by decide +kernel, rfl⟩
theorem dL_law_531 : Dn cL_law 531 (.iaload) 1 532 := ⟨by decide +kernel, rfl⟩
theorem dL_law_532 : Dn cL_law 532 (.aload_n 0) 1 533 := ⟨by decide +kernel, rfl⟩
theorem dL_law_533 : Dn cL_law 533 (.iload_n 3) 1 534 := ⟨by decide +kernel, rfl⟩
theorem dL_law_534 : Dn cL_law 534 (.iconst 3) 1 535 := ⟨by decide +kernel, rfl⟩
theorem dL_law_535 : Dn cL_law 535 (.iadd) 1 536 := ⟨by decide +kernel, rfl⟩
theorem dL_law_536 : Dn cL_law 536 (.iaload) 1 537 := ⟨by decide +kernel, rfl⟩
theorem dL_law_537 : Dn cL_law 537 (.invokevirtual 62) 3 540 := ⟨by decide +kernel, rfl⟩
theorem dL_law_540 : Dj cL_law 540 (fun o => .if_icmp .eq o) (325) 3 543 865 := ⟨by decide +kernel, rfl, by decide⟩
theorem dL_law_543 : Dn cL_law 543 (.iconst 0) 1 544 := ⟨by decide +kernel, rfl⟩
theorem dL_law_544 : Dn cL_law 544 (.ireturn) 1 545 := ⟨by decide +kernel, rfl⟩
theorem dL_law_545 : Dn cL_law 545 (.aload_n 1) 1 546 := ⟨by decide +kernel, rfl⟩
theorem dL_law_546 : Dn cL_law 546 (.aload_n 0) 1 547 := ⟨by decide +kernel, rfl⟩
theorem dL_law_547 : Dn cL_law 547 (.iload_n 3) 1 548 := ⟨by decide +kernel, rfl⟩
theorem dL_law_548 : Dn cL_law 548 (.iconst 1) 1 549 := ⟨by decide +kernel, rfl⟩
theorem dL_law_549 : Dn cL_law 549 (.iadd) 1 550 := ⟨by decide +kernel, rfl⟩
theorem dL_law_550 : Dn cL_law 550 (.iaload) 1 551 := ⟨by decide +kernel, rfl⟩
theorem dL_law_551 : Dn cL_law 551 (.aload_n 0) 1 552 := ⟨by decide +kernel, rfl⟩
theorem dL_law_552 : Dn cL_law 552 (.iload_n 3) 1 553 := ⟨by decide +kernel, rfl⟩
theorem dL_law_553 : Dn cL_law 553 (.iconst 2) 1 554 := ⟨by decide +kernel, rfl⟩
theorem dL_law_554 : Dn cL_law 554 (.iadd) 1 555 := ⟨by decide +kernel, rfl⟩
theorem dL_law_555 : Dn cL_law 555 (.iaload) 1 556 := ⟨by decide +kernel, rfl⟩
theorem dL_law_556 : Dn cL_law 556 (.aload_n 0) 1 557 := ⟨by decide +kernel, rfl⟩
theorem dL_law_557 : Dn cL_law 557 (.iload_n 3) 1 558 := ⟨by decide +kernel, rfl⟩
theorem dL_law_558 : Dn cL_law 558 (.iconst 3) 1 559 := ⟨by decide +kernel, rfl⟩
theorem dL_law_559 : Dn cL_law 559 (.iadd) 1 560 := ⟨by decide +kernel, rfl⟩
theorem dL_law_560 : Dn cL_law 560 (.iaload) 1 561 := ⟨by decide +kernel, rfl⟩
theorem dL_law_561 : Dn cL_law 561 (.invokevirtual 63) 3 564 := ⟨by decide +kernel, rfl⟩
theorem dL_law_564 : Dn cL_law 564 (.aload_n 2) 1 565 := ⟨by decide +kernel, rfl⟩
theorem dL_law_565 : Dn cL_law 565 (.aload_n 0) 1 566 := ⟨by decide +kernel, rfl⟩
theorem dL_law_566 : Dn cL_law 566 (.iload_n 3) 1 567 := ⟨by decide +kernel, rfl⟩
theorem dL_law_567 : Dn cL_law 567 (.iconst 1) 1 568 := ⟨by decide +kernel, rfl⟩
theorem dL_law_568 : Dn cL_law 568 (.iadd) 1 569 := ⟨by decide +kernel, rfl⟩
theorem dL_law_569 : Dn cL_law 569 (.iaload) 1 570 := ⟨by decide +kernel, rfl⟩
theorem dL_law_570 : Dn cL_law 570 (.aload_n 0) 1 571 := ⟨by decide +kernel, rfl⟩
theorem dL_law_571 : Dn cL_law 571 (.iload_n 3) 1 572 := ⟨by decide +kernel, rfl⟩
theorem dL_law_572 : Dn cL_law 572 (.iconst 2) 1 573 := ⟨by decide +kernel, rfl⟩
theorem dL_law_573 : Dn cL_law 573 (.iadd) 1 574 := ⟨by decide +kernel, rfl⟩
theorem dL_law_574 : Dn cL_law 574 (.iaload) 1 575 := ⟨by decide +kernel, rfl⟩
theorem dL_law_575 : Dn cL_law 575 (.aload_n 0) 1 576 := ⟨by decide +kernel, rfl⟩
theorem dL_law_576 : Dn cL_law 576 (.iload_n 3) 1 577 := ⟨by decide +kernel, rfl⟩
theorem dL_law_577 : Dn cL_law 577 (.iconst 3) 1 578 := ⟨by decide +kernel, rfl⟩
theorem dL_law_578 : Dn cL_law 578 (.iadd) 1 579 := ⟨by decide +kernel, rfl⟩
theorem dL_law_579 : Dn cL_law 579 (.iaload) 1 580 := ⟨by decide +kernel, rfl⟩
theorem dL_law_580 : Dn cL_law 580 (.invokevirtual 66) 3 583 := ⟨by decide +kernel, rfl⟩
theorem dL_law_583 : Dj cL_law 583 (fun o => .if_icmp .eq o) (282) 3 586 865 := ⟨by decide +kernel, rfl, by decide⟩
theorem dL_law_586 : Dn cL_law 586 (.iconst 0) 1 587 := ⟨by decide +kernel, rfl⟩
theorem dL_law_587 : Dn cL_law 587 (.ireturn) 1 588 := ⟨by decide +kernel, rfl⟩
theorem dL_law_588 : Dn cL_law 588 (.aload_n 1) 1 589 := ⟨by decide +kernel, rfl⟩
theorem dL_law_589 : Dn cL_law 589 (.aload_n 0) 1 590 := ⟨by decide +kernel, rfl⟩
theorem dL_law_590 : Dn cL_law 590 (.iload_n 3) 1 591 := ⟨by decide +kernel, rfl⟩
theorem dL_law_591 : Dn cL_law 591 (.iconst 1) 1 592 := ⟨by decide +kernel, rfl⟩
theorem dL_law_592 : Dn cL_law 592 (.iadd) 1 593 := ⟨by decide +kernel, rfl⟩
theorem dL_law_593 : Dn cL_law 593 (.iaload) 1 594 := ⟨by decide +kernel, rfl⟩
theorem dL_law_594 : Dn cL_law 594 (.aload_n 0) 1 595 := ⟨by decide +kernel, rfl⟩
theorem dL_law_595 : Dn cL_law 595 (.iload_n 3) 1 596 := ⟨by decide +kernel, rfl⟩
theorem dL_law_596 : Dn cL_law 596 (.iconst 2) 1 597 := ⟨by decide +kernel, rfl⟩
theorem dL_law_597 : Dn cL_law 597 (.iadd) 1 598 := ⟨by decide +kernel, rfl⟩
theorem dL_law_598 : Dn cL_law 598 (.iaload) 1 599 := ⟨by decide +kernel, rfl⟩
theorem dL_law_599 : Dn cL_law 599 (.invokevirtual 67) 3 602 := ⟨by decide +kernel, rfl⟩
theorem dL_law_602 : Dn cL_law 602 (.aload_n 2) 1 603 := ⟨by decide +kernel, rfl⟩
theorem dL_law_603 : Dn cL_law 603 (.aload_n 0) 1 604 := ⟨by decide +kernel, rfl⟩
theorem dL_law_604 : Dn cL_law 604 (.iload_n 3) 1 605 := ⟨by decide +kernel, rfl⟩
theorem dL_law_605 : Dn cL_law 605 (.iconst 1) 1 606 := ⟨by decide +kernel, rfl⟩
theorem dL_law_606 : Dn cL_law 606 (.iadd) 1 607 := ⟨by decide +kernel, rfl⟩
theorem dL_law_607 : Dn cL_law 607 (.iaload) 1 608 := ⟨by decide +kernel, rfl⟩
theorem dL_law_608 : Dn cL_law 608 (.aload_n 0) 1 609 := ⟨by decide +kernel, rfl⟩
theorem dL_law_609 : Dn cL_law 609 (.iload_n 3) 1 610 := ⟨by decide +kernel, rfl⟩
theorem dL_law_610 : Dn cL_law 610 (.iconst 2) 1 611 := ⟨by decide +kernel, rfl⟩
theorem dL_law_611 : Dn cL_law 611 (.iadd) 1 612 := ⟨by decide +kernel, rfl⟩
theorem dL_law_612 : Dn cL_law 612 (.iaload) 1 613 := ⟨by decide +kernel, rfl⟩
theorem dL_law_613 : Dn cL_law 613 (.invokevirtual 70) 3 616 := ⟨by decide +kernel, rfl⟩
theorem dL_law_616 : Dj cL_law 616 (fun o => .if_icmp .eq o) (249) 3 619 865 := ⟨by decide +kernel, rfl, by decide⟩
theorem dL_law_619 : Dn cL_law 619 (.iconst 0) 1 620 := ⟨by decide +kernel, rfl⟩
theorem dL_law_620 : Dn cL_law 620 (.ireturn) 1 621 := ⟨by decide +kernel, rfl⟩
theorem dL_law_621 : Dn cL_law 621 (.aload_n 1) 1 622 := ⟨by decide +kernel, rfl⟩
theorem dL_law_622 : Dn cL_law 622 (.invokevirtual 71) 3 625 := ⟨by decide +kernel, rfl⟩
theorem dL_law_625 : Dn cL_law 625 (.aload_n 2) 1 626 := ⟨by decide +kernel, rfl⟩
theorem dL_law_626 : Dn cL_law 626 (.invokevirtual 74) 3 629 := ⟨by decide +kernel, rfl⟩
theorem dL_law_629 : Dj cL_law 629 (fun o => .if_icmp .eq o) (236) 3 632 865 := ⟨by decide +kernel, rfl, by decide⟩
theorem dL_law_632 : Dn cL_law 632 (.iconst 0) 1 633 := ⟨by decide +kernel, rfl⟩
theorem dL_law_633 : Dn cL_law 633 (.ireturn) 1 634 := ⟨by decide +kernel, rfl⟩
theorem dL_law_634 : Dn cL_law 634 (.aload_n 1) 1 635 := ⟨by decide +kernel, rfl⟩
theorem dL_law_635 : Dn cL_law 635 (.invokevirtual 75) 3 638 := ⟨by decide +kernel, rfl⟩
theorem dL_law_638 : Dn cL_law 638 (.aload_n 2) 1 639 := ⟨by decide +kernel, rfl⟩
theorem dL_law_639 : Dn cL_law 639 (.invokevirtual 78) 3 642 := ⟨by decide +kernel, rfl⟩
theorem dL_law_642 : Dj cL_law 642 (fun o => .if_icmp .eq o) (223) 3 645 865 := ⟨by decide +kernel, rfl, by decide⟩
theorem dL_law_645 : Dn cL_law 645 (.iconst 0) 1 646 := ⟨by decide +kernel, rfl⟩
theorem dL_law_646 : Dn cL_law 646 (.ireturn) 1 647 := ⟨by decide +kernel, rfl⟩
theorem dL_law_647 : Dn cL_law 647 (.aload_n 1) 1 648 := ⟨by decide +kernel, rfl⟩
theorem dL_law_648 : Dn cL_law 648 (.aload_n 0) 1 649 := ⟨by decide +kernel, rfl⟩
theorem dL_law_649 : Dn cL_law 649 (.iload_n 3) 1 650 := ⟨by decide +kernel, rfl⟩
theorem dL_law_650 : Dn cL_law 650 (.iconst 1) 1 651 := ⟨by decide +kernel, rfl⟩
theorem dL_law_651 : Dn cL_law 651 (.iadd) 1 652 := ⟨by decide +kernel, rfl⟩
theorem dL_law_652 : Dn cL_law 652 (.iaload) 1 653 := ⟨by decide +kernel, rfl⟩
theorem dL_law_653 : Dn cL_law 653 (.aload_n 0) 1 654 := ⟨by decide +kernel, rfl⟩
theorem dL_law_654 : Dn cL_law 654 (.iload_n 3) 1 655 := ⟨by decide +kernel, rfl⟩
theorem dL_law_655 : Dn cL_law 655 (.iconst 2) 1 656 := ⟨by decide +kernel, rfl⟩
theorem dL_law_656 : Dn cL_law 656 (.iadd) 1 657 := ⟨by decide +kernel, rfl⟩
theorem dL_law_657 : Dn cL_law 657 (.iaload) 1 658 := ⟨by decide +kernel, rfl⟩
theorem dL_law_658 : Dn cL_law 658 (.aload_n 0) 1 659 := ⟨by decide +kernel, rfl⟩
theorem dL_law_659 : Dn cL_law 659 (.iload_n 3) 1 660 := ⟨by decide +kernel, rfl⟩
theorem dL_law_660 : Dn cL_law 660 (.iconst 3) 1 661 := ⟨by decide +kernel, rfl⟩
theorem dL_law_661 : Dn cL_law 661 (.iadd) 1 662 := ⟨by decide +kernel, rfl⟩
theorem dL_law_662 : Dn cL_law 662 (.iaload) 1 663 := ⟨by decide +kernel, rfl⟩
theorem dL_law_663 : Dn cL_law 663 (.invokevirtual 79) 3 666 := ⟨by decide +kernel, rfl⟩
theorem dL_law_666 : Dn cL_law 666 (.aload_n 2) 1 667 := ⟨by decide +kernel, rfl⟩
theorem dL_law_667 : Dn cL_law 667 (.aload_n 0) 1 668 := ⟨by decide +kernel, rfl⟩
theorem dL_law_668 : Dn cL_law 668 (.iload_n 3) 1 669 := ⟨by decide +kernel, rfl⟩
theorem dL_law_669 : Dn cL_law 669 (.iconst 1) 1 670 := ⟨by decide +kernel, rfl⟩
theorem dL_law_670 : Dn cL_law 670 (.iadd) 1 671 := ⟨by decide +kernel, rfl⟩
theorem dL_law_671 : Dn cL_law 671 (.iaload) 1 672 := ⟨by decide +kernel, rfl⟩
theorem dL_law_672 : Dn cL_law 672 (.aload_n 0) 1 673 := ⟨by decide +kernel, rfl⟩
theorem dL_law_673 : Dn cL_law 673 (.iload_n 3) 1 674 := ⟨by decide +kernel, rfl⟩
theorem dL_law_674 : Dn cL_law 674 (.iconst 2) 1 675 := ⟨by decide +kernel, rfl⟩
theorem dL_law_675 : Dn cL_law 675 (.iadd) 1 676 := ⟨by decide +kernel, rfl⟩
theorem dL_law_676 : Dn cL_law 676 (.iaload) 1 677 := ⟨by decide +kernel, rfl⟩
theorem dL_law_677 : Dn cL_law 677 (.aload_n 0) 1 678 := ⟨by decide +kernel, rfl⟩
theorem dL_law_678 : Dn cL_law 678 (.iload_n 3) 1 679 := ⟨by decide +kernel, rfl⟩
theorem dL_law_679 : Dn cL_law 679 (.iconst 3) 1 680 := ⟨by decide +kernel, rfl⟩
theorem dL_law_680 : Dn cL_law 680 (.iadd) 1 681 := ⟨by decide +kernel, rfl⟩
theorem dL_law_681 : Dn cL_law 681 (.iaload) 1 682 := ⟨by decide +kernel, rfl⟩
theorem dL_law_682 : Dn cL_law 682 (.invokevirtual 82) 3 685 := ⟨by decide +kernel, rfl⟩
theorem dL_law_685 : Dj cL_law 685 (fun o => .if_icmp .eq o) (180) 3 688 865 := ⟨by decide +kernel, rfl, by decide⟩
theorem dL_law_688 : Dn cL_law 688 (.iconst 0) 1 689 := ⟨by decide +kernel, rfl⟩
theorem dL_law_689 : Dn cL_law 689 (.ireturn) 1 690 := ⟨by decide +kernel, rfl⟩
theorem dL_law_690 : Dn cL_law 690 (.aload_n 1) 1 691 := ⟨by decide +kernel, rfl⟩
theorem dL_law_691 : Dn cL_law 691 (.aload_n 0) 1 692 := ⟨by decide +kernel, rfl⟩
theorem dL_law_692 : Dn cL_law 692 (.iload_n 3) 1 693 := ⟨by decide +kernel, rfl⟩
theorem dL_law_693 : Dn cL_law 693 (.iconst 1) 1 694 := ⟨by decide +kernel, rfl⟩
theorem dL_law_694 : Dn cL_law 694 (.iadd) 1 695 := ⟨by decide +kernel, rfl⟩
theorem dL_law_695 : Dn cL_law 695 (.iaload) 1 696 := ⟨by decide +kernel, rfl⟩
theorem dL_law_696 : Dn cL_law 696 (.aload_n 0) 1 697 := ⟨by decide +kernel, rfl⟩
theorem dL_law_697 : Dn cL_law 697 (.iload_n 3) 1 698 := ⟨by decide +kernel, rfl⟩
theorem dL_law_698 : Dn cL_law 698 (.iconst 2) 1 699 := ⟨by decide +kernel, rfl⟩
theorem dL_law_699 : Dn cL_law 699 (.iadd) 1 700 := ⟨by decide +kernel, rfl⟩
theorem dL_law_700 : Dn cL_law 700 (.iaload) 1 701 := ⟨by decide +kernel, rfl⟩
theorem dL_law_701 : Dn cL_law 701 (.aload_n 0) 1 702 := ⟨by decide +kernel, rfl⟩
theorem dL_law_702 : Dn cL_law 702 (.iload_n 3) 1 703 := ⟨by decide +kernel, rfl⟩
theorem dL_law_703 : Dn cL_law 703 (.iconst 3) 1 704 := ⟨by decide +kernel, rfl⟩
theorem dL_law_704 : Dn cL_law 704 (.iadd) 1 705 := ⟨by decide +kernel, rfl⟩
theorem dL_law_705 : Dn cL_law 705 (.iaload) 1 706 := ⟨by decide +kernel, rfl⟩
theorem dL_law_706 : Dn cL_law 706 (.invokevirtual 83) 3 709 := ⟨by decide +kernel, rfl⟩
theorem dL_law_709 : Dn cL_law 709 (.aload_n 2) 1 710 := ⟨by decide +kernel, rfl⟩
theorem dL_law_710 : Dn cL_law 710 (.aload_n 0) 1 711 := ⟨by decide +kernel, rfl⟩
theorem dL_law_711 : Dn cL_law 711 (.iload_n 3) 1 712 := ⟨by decide +kernel, rfl⟩
theorem dL_law_712 : Dn cL_law 712 (.iconst 1) 1 713 := ⟨by decide +kernel, rfl⟩
theorem dL_law_713 : Dn cL_law 713 (.iadd) 1 714 := ⟨by decide +kernel, rfl⟩
theorem dL_law_714 : Dn cL_law 714 (.iaload) 1 715 := ⟨by decide +kernel, rfl⟩
theorem dL_law_715 : Dn cL_law 715 (.aload_n 0) 1 716 := ⟨by decide +kernel, rfl⟩
theorem dL_law_716 : Dn cL_law 716 (.iload_n 3) 1 717 := ⟨by decide +kernel, rfl⟩
theorem dL_law_717 : Dn cL_law 717 (.iconst 2) 1 718 := ⟨by decide +kernel, rfl⟩
theorem dL_law_718 : Dn cL_law 718 (.iadd) 1 719 := ⟨by decide +kernel, rfl⟩
theorem dL_law_719 : Dn cL_law 719 (.iaload) 1 720 := ⟨by decide +kernel, rfl⟩
theorem dL_law_720 : Dn cL_law 720 (.aload_n 0) 1 721 := ⟨by decide +kernel, rfl⟩
theorem dL_law_721 : Dn cL_law 721 (.iload_n 3) 1 722 := ⟨by decide +kernel, rfl⟩
theorem dL_law_722 : Dn cL_law 722 (.iconst 3) 1 723 := ⟨by decide +kernel, rfl⟩
theorem dL_law_723 : Dn cL_law 723 (.iadd) 1 724 := ⟨by decide +kernel, rfl⟩
theorem dL_law_724 : Dn cL_law 724 (.iaload) 1 725 := ⟨by decide +kernel, rfl⟩
theorem dL_law_725 : Dn cL_law 725 (.invokevirtual 86) 3 728 := ⟨by decide +kernel, rfl⟩
theorem dL_law_728 : Dj cL_law 728 (fun o => .if_icmp .eq o) (137) 3 731 865 := ⟨by decide +kernel, rfl, by decide⟩
theorem dL_law_731 : Dn cL_law 731 (.iconst 0) 1 732 := ⟨by decide +kernel, rfl⟩
theorem dL_law_732 : Dn cL_law 732 (.ireturn) 1 733 := ⟨by decide +kernel, rfl⟩
theorem dL_law_733 : Dn cL_law 733 (.aload_n 1) 1 734 := ⟨by decide +kernel, rfl⟩
theorem dL_law_734 : Dn cL_law 734 (.aload_n 0) 1 735 := ⟨by decide +kernel, rfl⟩
theorem dL_law_735 : Dn cL_law 735 (.iload_n 3) 1 736 := ⟨by decide +kernel, rfl⟩
theorem dL_law_736 : Dn cL_law 736 (.iconst 1) 1 737 := ⟨by decide +kernel, rfl⟩
theorem dL_law_737 : Dn cL_law 737 (.iadd) 1 738 := ⟨by decide +kernel, rfl⟩
theorem dL_law_738 : Dn cL_law 738 (.iaload) 1 739 := ⟨by decide +kernel, rfl⟩
theorem dL_law_739 : Dn cL_law 739 (.aload_n 0) 1 740 := ⟨by decide +kernel, rfl⟩
theorem dL_law_740 : Dn cL_law 740 (.iload_n 3) 1 741 := ⟨by decide +kernel, rfl⟩
theorem dL_law_741 : Dn cL_law 741 (.iconst 2) 1 742 := ⟨by decide +kernel, rfl⟩
theorem dL_law_742 : Dn cL_law 742 (.iadd) 1 743 := ⟨by decide +kernel, rfl⟩
theorem dL_law_743 : Dn cL_law 743 (.iaload) 1 744 := ⟨by decide +kernel, rfl⟩
theorem dL_law_744 : Dn cL_law 744 (.aload_n 0) 1 745 := ⟨by decide +kernel, rfl⟩
theorem dL_law_745 : Dn cL_law 745 (.iload_n 3) 1 746 := ⟨by decide +kernel, rfl⟩
theorem dL_law_746 : Dn cL_law 746 (.iconst 3) 1 747 := ⟨by decide +kernel, rfl⟩
theorem dL_law_747 : Dn cL_law 747 (.iadd) 1 748 := ⟨by decide +kernel, rfl⟩
theorem dL_law_748 : Dn cL_law 748 (.iaload) 1 749 := ⟨by decide +kernel, rfl⟩
theorem dL_law_749 : Dn cL_law 749 (.invokevirtual 87) 3 752 := ⟨by decide +kernel, rfl⟩
theorem dL_law_752 : Dn cL_law 752 (.aload_n 2) 1 753 := ⟨by decide +kernel, rfl⟩
theorem dL_law_753 : Dn cL_law 753 (.aload_n 0) 1 754 := ⟨by decide +kernel, rfl⟩
theorem dL_law_754 : Dn cL_law 754 (.iload_n 3) 1 755 := ⟨by decide +kernel, rfl⟩
theorem dL_law_755 : Dn cL_law 755 (.iconst 1) 1 756 := ⟨by decide +kernel, rfl⟩
theorem dL_law_756 : Dn cL_law 756 (.iadd) 1 757 := ⟨by decide +kernel, rfl⟩
theorem dL_law_757 : Dn cL_law 757 (.iaload) 1 758 := ⟨by decide +kernel, rfl⟩
theorem dL_law_758 : Dn cL_law 758 (.aload_n 0) 1 759 := ⟨by decide +kernel, rfl⟩
theorem dL_law_759 : Dn cL_law 759 (.iload_n 3) 1 760 := ⟨by decide +kernel, rfl⟩
theorem dL_law_760 : Dn cL_law 760 (.iconst 2) 1 761 := ⟨by decide +kernel, rfl⟩
theorem dL_law_761 : Dn cL_law 761 (.iadd) 1 762 := ⟨by decide +kernel, rfl⟩
theorem dL_law_762 : Dn cL_law 762 (.iaload) 1 763 := ⟨by decide +kernel, rfl⟩
theorem dL_law_763 : Dn cL_law 763 (.aload_n 0) 1 764 := ⟨by decide +kernel, rfl⟩
theorem dL_law_764 : Dn cL_law 764 (.iload_n 3) 1 765 := ⟨by decide +kernel, rfl⟩
theorem dL_law_765 : Dn cL_law 765 (.iconst 3) 1 766 := ⟨by decide +kernel, rfl⟩
theorem dL_law_766 : Dn cL_law 766 (.iadd) 1 767 := ⟨by decide +kernel, rfl⟩
theorem dL_law_767 : Dn cL_law 767 (.iaload) 1 768 := ⟨by decide +kernel, rfl⟩
theorem dL_law_768 : Dn cL_law 768 (.invokevirtual 90) 3 771 := ⟨by decide +kernel, rfl⟩
theorem dL_law_771 : Dj cL_law 771 (fun o => .if_icmp .eq o) (94) 3 774 865 := ⟨by decide +kernel, rfl, by decide⟩
theorem dL_law_774 : Dn cL_law 774 (.iconst 0) 1 775 := ⟨by decide +kernel, rfl⟩
theorem dL_law_775 : Dn cL_law 775 (.ireturn) 1 776 := ⟨by decide +kernel, rfl⟩
theorem dL_law_776 : Dn cL_law 776 (.aload_n 1) 1 777 := ⟨by decide +kernel, rfl⟩
theorem dL_law_777 : Dn cL_law 777 (.aload_n 0) 1 778 := ⟨by decide +kernel, rfl⟩
theorem dL_law_778 : Dn cL_law 778 (.iload_n 3) 1 779 := ⟨by decide +kernel, rfl⟩
theorem dL_law_779 : Dn cL_law 779 (.iconst 1) 1 780 := ⟨by decide +kernel, rfl⟩
theorem dL_law_780 : Dn cL_law 780 (.iadd) 1 781 := ⟨by decide +kernel, rfl⟩
theorem dL_law_781 : Dn cL_law 781 (.iaload) 1 782 := ⟨by decide +kernel, rfl⟩
theorem dL_law_782 : Dn cL_law 782 (.aload_n 0) 1 783 := ⟨by decide +kernel, rfl⟩
theorem dL_law_783 : Dn cL_law 783 (.iload_n 3) 1 784 := ⟨by decide +kernel, rfl⟩
theorem dL_law_784 : Dn cL_law 784 (.iconst 2) 1 785 := ⟨by decide +kernel, rfl⟩
theorem dL_law_785 : Dn cL_law 785 (.iadd) 1 786 := ⟨by decide +kernel, rfl⟩
theorem dL_law_786 : Dn cL_law 786 (.iaload) 1 787 := ⟨by decide +kernel, rfl⟩
theorem dL_law_787 : Dn cL_law 787 (.aload_n 0) 1 788 := ⟨by decide +kernel, rfl⟩
theorem dL_law_788 : Dn cL_law 788 (.iload_n 3) 1 789 := ⟨by decide +kernel, rfl⟩
theorem dL_law_789 : Dn cL_law 789 (.iconst 3) 1 790 := ⟨by decide +kernel, rfl⟩
theorem dL_law_790 : Dn cL_law 790 (.iadd) 1 791 := ⟨by decide +kernel, rfl⟩
theorem dL_law_791 : Dn cL_law 791 (.iaload) 1 792 := ⟨by decide +kernel, rfl⟩
theorem dL_law_792 : Dn cL_law 792 (.invokevirtual 91) 3 795 := ⟨by decide +kernel, rfl⟩
theorem dL_law_795 : Dn cL_law 795 (.aload_n 2) 1 796 := ⟨by decide +kernel, rfl⟩
theorem dL_law_796 : Dn cL_law 796 (.aload_n 0) 1 797 := ⟨by decide +kernel, rfl⟩
theorem dL_law_797 : Dn cL_law 797 (.iload_n 3) 1 798 := ⟨by decide +kernel, rfl⟩
theorem dL_law_798 : Dn cL_law 798 (.iconst 1) 1 799 := ⟨by decide +kernel, rfl⟩
theorem dL_law_799 : Dn cL_law 799 (.iadd) 1 800 := ⟨by decide +kernel, rfl⟩
theorem dL_law_800 : Dn cL_law 800 (.iaload) 1 801 := ⟨by decide +kernel, rfl⟩
theorem dL_law_801 : Dn cL_law 801 (.aload_n 0) 1 802 := ⟨by decide +kernel, rfl⟩
theorem dL_law_802 : Dn cL_law 802 (.iload_n 3) 1 803 := ⟨by decide +kernel, rfl⟩
theorem dL_law_803 : Dn cL_law 803 (.iconst 2) 1 804 := ⟨by decide +kernel, rfl⟩
theorem dL_law_804 : Dn cL_law 804 (.iadd) 1 805 := ⟨by decide +kernel, rfl⟩
theorem dL_law_805 : Dn cL_law 805 (.iaload) 1 806 := ⟨by decide +kernel, rfl⟩
theorem dL_law_806 : Dn cL_law 806 (.aload_n 0) 1 807 := ⟨by decide +kernel, rfl⟩
theorem dL_law_807 : Dn cL_law 807 (.iload_n 3) 1 808 := ⟨by decide +kernel, rfl⟩
theorem dL_law_808 : Dn cL_law 808 (.iconst 3) 1 809 := ⟨by decide +kernel, rfl⟩
theorem dL_law_809 : Dn cL_law 809 (.iadd) 1 810 := ⟨by decide +kernel, rfl⟩
theorem dL_law_810 : Dn cL_law 810 (.iaload) 1 811 := ⟨by decide +kernel, rfl⟩
theorem dL_law_811 : Dn cL_law 811 (.invokevirtual 94) 3 814 := ⟨by decide +kernel, rfl⟩
theorem dL_law_814 : Dj cL_law 814 (fun o => .if_icmp .eq o) (51) 3 817 865 := ⟨by decide +kernel, rfl, by decide⟩
theorem dL_law_817 : Dn cL_law 817 (.iconst 0) 1 818 := ⟨by decide +kernel, rfl⟩
theorem dL_law_818 : Dn cL_law 818 (.ireturn) 1 819 := ⟨by decide +kernel, rfl⟩
theorem dL_law_819 : Dn cL_law 819 (.aload_n 1) 1 820 := ⟨by decide +kernel, rfl⟩
theorem dL_law_820 : Dn cL_law 820 (.aload_n 0) 1 821 := ⟨by decide +kernel, rfl⟩
theorem dL_law_821 : Dn cL_law 821 (.iload_n 3) 1 822 := ⟨by decide +kernel, rfl⟩
theorem dL_law_822 : Dn cL_law 822 (.iconst 1) 1 823 := ⟨by decide +kernel, rfl⟩
theorem dL_law_823 : Dn cL_law 823 (.iadd) 1 824 := ⟨by decide +kernel, rfl⟩
theorem dL_law_824 : Dn cL_law 824 (.iaload) 1 825 := ⟨by decide +kernel, rfl⟩
theorem dL_law_825 : Dn cL_law 825 (.invokevirtual 95) 3 828 := ⟨by decide +kernel, rfl⟩
theorem dL_law_828 : Dn cL_law 828 (.aload_n 2) 1 829 := ⟨by decide +kernel, rfl⟩
theorem dL_law_829 : Dn cL_law 829 (.aload_n 0) 1 830 := ⟨by decide +kernel, rfl⟩
theorem dL_law_830 : Dn cL_law 830 (.iload_n 3) 1 831 := ⟨by decide +kernel, rfl⟩
theorem dL_law_831 : Dn cL_law 831 (.iconst 1) 1 832 := ⟨by decide +kernel, rfl⟩
theorem dL_law_832 : Dn cL_law 832 (.iadd) 1 833 := ⟨by decide +kernel, rfl⟩
theorem dL_law_833 : Dn cL_law 833 (.iaload) 1 834 := ⟨by decide +kernel, rfl⟩
theorem dL_law_834 : Dn cL_law 834 (.invokevirtual 98) 3 837 := ⟨by decide +kernel, rfl⟩
theorem dL_law_837 : Dj cL_law 837 (fun o => .if_icmp .eq o) (28) 3 840 865 := ⟨by decide +kernel, rfl, by decide⟩
theorem dL_law_840 : Dn cL_law 840 (.iconst 0) 1 841 := ⟨by decide +kernel, rfl⟩
theorem dL_law_841 : Dn cL_law 841 (.ireturn) 1 842 := ⟨by decide +kernel, rfl⟩
theorem dL_law_842 : Dn cL_law 842 (.aload_n 1) 1 843 := ⟨by decide +kernel, rfl⟩
theorem dL_law_843 : Dn cL_law 843 (.aload_n 0) 1 844 := ⟨by decide +kernel, rfl⟩
theorem dL_law_844 : Dn cL_law 844 (.iload_n 3) 1 845 := ⟨by decide +kernel, rfl⟩
theorem dL_law_845 : Dn cL_law 845 (.iconst 1) 1 846 := ⟨by decide +kernel, rfl⟩
theorem dL_law_846 : Dn cL_law 846 (.iadd) 1 847 := ⟨by decide +kernel, rfl⟩
theorem dL_law_847 : Dn cL_law 847 (.iaload) 1 848 := ⟨by decide +kernel, rfl⟩
theorem dL_law_848 : Dn cL_law 848 (.invokevirtual 99) 3 851 := ⟨by decide +kernel, rfl⟩
theorem dL_law_851 : Dn cL_law 851 (.aload_n 2) 1 852 := ⟨by decide +kernel, rfl⟩
theorem dL_law_852 : Dn cL_law 852 (.aload_n 0) 1 853 := ⟨by decide +kernel, rfl⟩
theorem dL_law_853 : Dn cL_law 853 (.iload_n 3) 1 854 := ⟨by decide +kernel, rfl⟩
theorem dL_law_854 : Dn cL_law 854 (.iconst 1) 1 855 := ⟨by decide +kernel, rfl⟩
theorem dL_law_855 : Dn cL_law 855 (.iadd) 1 856 := ⟨by decide +kernel, rfl⟩
theorem dL_law_856 : Dn cL_law 856 (.iaload) 1 857 := ⟨by decide +kernel, rfl⟩
theorem dL_law_857 : Dn cL_law 857 (.invokevirtual 102) 3 860 := ⟨by decide +kernel, rfl⟩
theorem dL_law_860 : Dj cL_law 860 (fun o => .if_icmp .eq o) (5) 3 863 865 := ⟨by decide +kernel, rfl, by decide⟩
theorem dL_law_863 : Dn cL_law 863 (.iconst 0) 1 864 := ⟨by decide +kernel, rfl⟩
theorem dL_law_864 : Dn cL_law 864 (.ireturn) 1 865 := ⟨by decide +kernel, rfl⟩
theorem dL_law_865 : Dn cL_law 865 (.iinc 3 6) 3 868 := ⟨by decide +kernel, rfl⟩
theorem dL_law_868 : Dj cL_law 868 .goto (-850) 3 871 18 := ⟨by decide +kernel, rfl, by decide⟩
theorem dL_law_871 : Dn cL_law 871 (.iconst 1) 1 872 := ⟨by decide +kernel, rfl⟩
theorem dL_law_872 : Dn cL_law 872 (.ireturn) 1 873 := ⟨by decide +kernel, rfl⟩
end
section
def rgl (k j : Nat) : Int := if k = 0 then (if j = 4 then 1 else if j = 5 then 0 else (-2147483648)) else 
  if k = 1 then (if j = 0 then (-2147483648) else (-2147483648)) else 
  if k = 2 then (if j = 3 then 0 else if j = 4 then 0 else if j = 5 then 0 else (-2147483648)) else 
  if k = 3 then (if j = 0 then (-3000) else if j = 1 then (-3000) else if j = 2 then (-6000) else if j = 3 then (-6000) else if j = 4 then 0 else if j = 5 then 0 else if j = 6 then 0 else (-2147483648)) else 
  if k = 4 then (if j = 2 then 0 else (-2147483648)) else 
  if k = 7 then (0) else 
  if k = 8 then (0) else 
  if k = 9 then (0) else 
  if k < 14 then (if j = 2 then (-1000) else if j = 3 then (-1000) else if j = 4 then (-6) else if j = 5 then (-6) else (-2147483648)) else 
  if k < 18 then (if j = 2 then 0 else if j = 3 then 0 else if j = 4 then 0 else (-2147483648)) else 
  if k < 22 then ((-1)) else 
  if k < 26 then (0) else 
  if k < 30 then (if j = 4 then 0 else (-2147483648)) else 
  if k < 34 then (0) else 
  if k < 38 then (0) else 
  if k < 42 then (0) else 
  if k < 46 then (0) else 
  if k < 62 then (if j = 1 then 0 else if j = 2 then 0 else if j = 3 then (-20) else if j = 4 then (-20) else (-2147483648)) else 
  if k < 78 then ((-6)) else 
  if k = 78 then (if j = 0 then (-2147483648) else if j = 1 then 0 else if j = 5 then 1 else if j = 6 then 0 else if j = 7 then 0 else if j = 17 then 0 else if j = 22 then (-3000) else if j = 23 then (-3000) else if j = 24 then (-6000) else if j = 25 then (-6000) else (-2147483648)) else 
  if k = 79 then (0) else 
  if k = 80 then (0) else 
  if k = 81 then ((-1)) else 
  if k = 82 then (0) else 
  if k = 83 then (0) else 
  if k = 84 then (0) else 
  if k = 85 then (0) else 
  if k = 86 then ((-6)) else 
  if k = 87 then ((-20)) else 
  if k = 88 then ((-20)) else 
  if k = 89 then (0) else 
  if k = 90 then (0) else 
  if k = 91 then ((-1000)) else 
  if k = 92 then ((-1000)) else 
  if k = 93 then ((-6)) else 
  if k = 94 then ((-6)) else 
  if k = 95 then (0) else (-2147483648)
def rgh (k j : Nat) : Int := if k = 0 then (if j = 4 then 1000000 else if j = 5 then 12 else 2147483647) else 
  if k = 1 then (if j = 0 then 2147483647 else 2147483647) else 
  if k = 2 then (if j = 3 then 4 else if j = 4 then 4 else if j = 5 then 1 else 2147483647) else 
  if k = 3 then (if j = 0 then 3000 else if j = 1 then 3000 else if j = 2 then 6000 else if j = 3 then 6000 else if j = 4 then 102000 else if j = 5 then 102000 else if j = 6 then 400 else 2147483647) else 
  if k = 4 then (if j = 2 then 5100 else 2147483647) else 
  if k = 7 then (3) else 
  if k = 8 then (5100) else 
  if k = 9 then (19) else 
  if k < 14 then (if j = 2 then 1000 else if j = 3 then 1000 else if j = 4 then 3 else if j = 5 then 3 else 2147483647) else 
  if k < 18 then (if j = 2 then 20 else if j = 3 then 20 else if j = 4 then 1 else 2147483647) else 
  if k < 22 then (255) else 
  if k < 26 then (585225) else 
  if k < 30 then (if j = 4 then 16 else 2147483647) else 
  if k < 34 then (19) else 
  if k < 38 then (19) else 
  if k < 42 then (585225) else 
  if k < 46 then (4095) else 
  if k < 62 then (if j = 1 then 16 else if j = 2 then 16 else if j = 3 then 20 else if j = 4 then 20 else 2147483647) else 
  if k < 78 then (15) else 
  if k = 78 then (if j = 0 then 2147483647 else if j = 1 then 4 else if j = 5 then 1000000 else if j = 6 then 12 else if j = 7 then 1 else if j = 17 then 4 else if j = 22 then 3000 else if j = 23 then 3000 else if j = 24 then 6000 else if j = 25 then 6000 else 2147483647) else 
  if k = 79 then (20) else 
  if k = 80 then (20) else 
  if k = 81 then (255) else 
  if k = 82 then (585225) else 
  if k = 83 then (16) else 
  if k = 84 then (1599) else 
  if k = 85 then (4095) else 
  if k = 86 then (15) else 
  if k = 87 then (20) else 
  if k = 88 then (20) else 
  if k = 89 then (16) else 
  if k = 90 then (16) else 
  if k = 91 then (1000) else 
  if k = 92 then (1000) else 
  if k = 93 then (3) else 
  if k = 94 then (3) else 
  if k = 95 then (5100) else 2147483647
/-- every int lies within its bounds -/
def rng (μ : Mem) : Prop := ∀ k j : Nat, rgl k j ≤ μ k j ∧ μ k j ≤ rgh k j
theorem rng_ms {μ : Mem} (h : rng μ) {k j : Nat} {z : Int} (h0 : rgl k j ≤ z) (h1 : z ≤ rgh k j) : rng (jms μ k j z) := by
  intro k' j'
  by_cases e : k' = k ∧ j' = j
  · obtain ⟨rfl, rfl⟩ := e
    rw [jms_same]
    exact ⟨h0, h1⟩
  · have : jms μ k j z k' j' = μ k' j' := by simp [jms, e]
    rw [this]
    exact h k' j'
theorem rg_PJ_4 {μ : Mem} (h : rng μ) : 1 ≤ μ 0 4 ∧ μ 0 4 ≤ 1000000 := h 0 4
theorem rs_PJ_4 {μ : Mem} (h : rng μ) {z : Int} (h0 : 1 ≤ z) (h1 : z ≤ 1000000) : rng (jms μ 0 4 z) := rng_ms h h0 h1
theorem rg_PJ_5 {μ : Mem} (h : rng μ) : 0 ≤ μ 0 5 ∧ μ 0 5 ≤ 12 := h 0 5
theorem rs_PJ_5 {μ : Mem} (h : rng μ) {z : Int} (h0 : 0 ≤ z) (h1 : z ≤ 12) : rng (jms μ 0 5 z) := rng_ms h h0 h1
theorem rg_WO_0 {μ : Mem} (h : rng μ) : (-2147483648) ≤ μ 1 0 ∧ μ 1 0 ≤ 2147483647 := h 1 0
theorem rs_WO_0 {μ : Mem} (h : rng μ) {z : Int} (h0 : (-2147483648) ≤ z) (h1 : z ≤ 2147483647) : rng (jms μ 1 0 z) := rng_ms h h0 h1
theorem rg_AL_3 {μ : Mem} (h : rng μ) : 0 ≤ μ 2 3 ∧ μ 2 3 ≤ 4 := h 2 3
theorem rs_AL_3 {μ : Mem} (h : rng μ) {z : Int} (h0 : 0 ≤ z) (h1 : z ≤ 4) : rng (jms μ 2 3 z) := rng_ms h h0 h1
theorem rg_AL_4 {μ : Mem} (h : rng μ) : 0 ≤ μ 2 4 ∧ μ 2 4 ≤ 4 := h 2 4
theorem rs_AL_4 {μ : Mem} (h : rng μ) {z : Int} (h0 : 0 ≤ z) (h1 : z ≤ 4) : rng (jms μ 2 4 z) := rng_ms h h0 h1
theorem rg_AL_5 {μ : Mem} (h : rng μ) : 0 ≤ μ 2 5 ∧ μ 2 5 ≤ 1 := h 2 5
theorem rs_AL_5 {μ : Mem} (h : rng μ) {z : Int} (h0 : 0 ≤ z) (h1 : z ≤ 1) : rng (jms μ 2 5 z) := rng_ms h h0 h1
theorem rg_OV_0 {μ : Mem} (h : rng μ) : (-3000) ≤ μ 3 0 ∧ μ 3 0 ≤ 3000 := h 3 0
theorem rs_OV_0 {μ : Mem} (h : rng μ) {z : Int} (h0 : (-3000) ≤ z) (h1 : z ≤ 3000) : rng (jms μ 3 0 z) := rng_ms h h0 h1
theorem rg_OV_1 {μ : Mem} (h : rng μ) : (-3000) ≤ μ 3 1 ∧ μ 3 1 ≤ 3000 := h 3 1
theorem rs_OV_1 {μ : Mem} (h : rng μ) {z : Int} (h0 : (-3000) ≤ z) (h1 : z ≤ 3000) : rng (jms μ 3 1 z) := rng_ms h h0 h1
theorem rg_OV_2 {μ : Mem} (h : rng μ) : (-6000) ≤ μ 3 2 ∧ μ 3 2 ≤ 6000 := h 3 2
theorem rs_OV_2 {μ : Mem} (h : rng μ) {z : Int} (h0 : (-6000) ≤ z) (h1 : z ≤ 6000) : rng (jms μ 3 2 z) := rng_ms h h0 h1
theorem rg_OV_3 {μ : Mem} (h : rng μ) : (-6000) ≤ μ 3 3 ∧ μ 3 3 ≤ 6000 := h 3 3
theorem rs_OV_3 {μ : Mem} (h : rng μ) {z : Int} (h0 : (-6000) ≤ z) (h1 : z ≤ 6000) : rng (jms μ 3 3 z) := rng_ms h h0 h1
theorem rg_OV_4 {μ : Mem} (h : rng μ) : 0 ≤ μ 3 4 ∧ μ 3 4 ≤ 102000 := h 3 4
theorem rs_OV_4 {μ : Mem} (h : rng μ) {z : Int} (h0 : 0 ≤ z) (h1 : z ≤ 102000) : rng (jms μ 3 4 z) := rng_ms h h0 h1
theorem rg_OV_5 {μ : Mem} (h : rng μ) : 0 ≤ μ 3 5 ∧ μ 3 5 ≤ 102000 := h 3 5
theorem rs_OV_5 {μ : Mem} (h : rng μ) {z : Int} (h0 : 0 ≤ z) (h1 : z ≤ 102000) : rng (jms μ 3 5 z) := rng_ms h h0 h1
theorem rg_OV_6 {μ : Mem} (h : rng μ) : 0 ≤ μ 3 6 ∧ μ 3 6 ≤ 400 := h 3 6
theorem rs_OV_6 {μ : Mem} (h : rng μ) {z : Int} (h0 : 0 ≤ z) (h1 : z ≤ 400) : rng (jms μ 3 6 z) := rng_ms h h0 h1
theorem rg_SE_2 {μ : Mem} (h : rng μ) : 0 ≤ μ 4 2 ∧ μ 4 2 ≤ 5100 := h 4 2
theorem rs_SE_2 {μ : Mem} (h : rng μ) {z : Int} (h0 : 0 ≤ z) (h1 : z ≤ 5100) : rng (jms μ 4 2 z) := rng_ms h h0 h1
theorem rg_7 {μ : Mem} (h : rng μ) (j : Nat) : 0 ≤ μ 7 j ∧ μ 7 j ≤ 3 := h 7 j
theorem rs_7 {μ : Mem} (h : rng μ) (j : Nat) {z : Int} (h0 : 0 ≤ z) (h1 : z ≤ 3) : rng (jms μ 7 j z) := rng_ms h h0 h1
theorem rg_8 {μ : Mem} (h : rng μ) (j : Nat) : 0 ≤ μ 8 j ∧ μ 8 j ≤ 5100 := h 8 j
theorem rs_8 {μ : Mem} (h : rng μ) (j : Nat) {z : Int} (h0 : 0 ≤ z) (h1 : z ≤ 5100) : rng (jms μ 8 j z) := rng_ms h h0 h1
theorem rg_9 {μ : Mem} (h : rng μ) (j : Nat) : 0 ≤ μ 9 j ∧ μ 9 j ≤ 19 := h 9 j
theorem rs_9 {μ : Mem} (h : rng μ) (j : Nat) {z : Int} (h0 : 0 ≤ z) (h1 : z ≤ 19) : rng (jms μ 9 j z) := rng_ms h h0 h1
theorem rg_PI_2 {μ : Mem} (h : rng μ) {p : Nat} (hp : p < 4) : (-1000) ≤ μ (10 + p) 2 ∧ μ (10 + p) 2 ≤ 1000 := jlt4 (P := fun p => (-1000) ≤ μ (10 + p) 2 ∧ μ (10 + p) 2 ≤ 1000) (h 10 2) (h 11 2) (h 12 2) (h 13 2) hp
theorem rs_PI_2 {μ : Mem} (h : rng μ) {p : Nat} (hp : p < 4) {z : Int} (h0 : (-1000) ≤ z) (h1 : z ≤ 1000) : rng (jms μ (10 + p) 2 z) := jlt4 (P := fun p => rng (jms μ (10 + p) 2 z)) (rng_ms (k := 10) h h0 h1) (rng_ms (k := 11) h h0 h1) (rng_ms (k := 12) h h0 h1) (rng_ms (k := 13) h h0 h1) hp
theorem rg_PI_3 {μ : Mem} (h : rng μ) {p : Nat} (hp : p < 4) : (-1000) ≤ μ (10 + p) 3 ∧ μ (10 + p) 3 ≤ 1000 := jlt4 (P := fun p => (-1000) ≤ μ (10 + p) 3 ∧ μ (10 + p) 3 ≤ 1000) (h 10 3) (h 11 3) (h 12 3) (h 13 3) hp
theorem rs_PI_3 {μ : Mem} (h : rng μ) {p : Nat} (hp : p < 4) {z : Int} (h0 : (-1000) ≤ z) (h1 : z ≤ 1000) : rng (jms μ (10 + p) 3 z) := jlt4 (P := fun p => rng (jms μ (10 + p) 3 z)) (rng_ms (k := 10) h h0 h1) (rng_ms (k := 11) h h0 h1) (rng_ms (k := 12) h h0 h1) (rng_ms (k := 13) h h0 h1) hp
theorem rg_PI_4 {μ : Mem} (h : rng μ) {p : Nat} (hp : p < 4) : (-6) ≤ μ (10 + p) 4 ∧ μ (10 + p) 4 ≤ 3 := jlt4 (P := fun p => (-6) ≤ μ (10 + p) 4 ∧ μ (10 + p) 4 ≤ 3) (h 10 4) (h 11 4) (h 12 4) (h 13 4) hp
theorem rs_PI_4 {μ : Mem} (h : rng μ) {p : Nat} (hp : p < 4) {z : Int} (h0 : (-6) ≤ z) (h1 : z ≤ 3) : rng (jms μ (10 + p) 4 z) := jlt4 (P := fun p => rng (jms μ (10 + p) 4 z)) (rng_ms (k := 10) h h0 h1) (rng_ms (k := 11) h h0 h1) (rng_ms (k := 12) h h0 h1) (rng_ms (k := 13) h h0 h1) hp
theorem rg_PI_5 {μ : Mem} (h : rng μ) {p : Nat} (hp : p < 4) : (-6) ≤ μ (10 + p) 5 ∧ μ (10 + p) 5 ≤ 3 := jlt4 (P := fun p => (-6) ≤ μ (10 + p) 5 ∧ μ (10 + p) 5 ≤ 3) (h 10 5) (h 11 5) (h 12 5) (h 13 5) hp
theorem rs_PI_5 {μ : Mem} (h : rng μ) {p : Nat} (hp : p < 4) {z : Int} (h0 : (-6) ≤ z) (h1 : z ≤ 3) : rng (jms μ (10 + p) 5 z) := jlt4 (P := fun p => rng (jms μ (10 + p) 5 z)) (rng_ms (k := 10) h h0 h1) (rng_ms (k := 11) h h0 h1) (rng_ms (k := 12) h h0 h1) (rng_ms (k := 13) h h0 h1) hp
theorem rg_DO_2 {μ : Mem} (h : rng μ) {p : Nat} (hp : p < 4) : 0 ≤ μ (14 + p) 2 ∧ μ (14 + p) 2 ≤ 20 := jlt4 (P := fun p => 0 ≤ μ (14 + p) 2 ∧ μ (14 + p) 2 ≤ 20) (h 14 2) (h 15 2) (h 16 2) (h 17 2) hp
theorem rs_DO_2 {μ : Mem} (h : rng μ) {p : Nat} (hp : p < 4) {z : Int} (h0 : 0 ≤ z) (h1 : z ≤ 20) : rng (jms μ (14 + p) 2 z) := jlt4 (P := fun p => rng (jms μ (14 + p) 2 z)) (rng_ms (k := 14) h h0 h1) (rng_ms (k := 15) h h0 h1) (rng_ms (k := 16) h h0 h1) (rng_ms (k := 17) h h0 h1) hp
theorem rg_DO_3 {μ : Mem} (h : rng μ) {p : Nat} (hp : p < 4) : 0 ≤ μ (14 + p) 3 ∧ μ (14 + p) 3 ≤ 20 := jlt4 (P := fun p => 0 ≤ μ (14 + p) 3 ∧ μ (14 + p) 3 ≤ 20) (h 14 3) (h 15 3) (h 16 3) (h 17 3) hp
theorem rs_DO_3 {μ : Mem} (h : rng μ) {p : Nat} (hp : p < 4) {z : Int} (h0 : 0 ≤ z) (h1 : z ≤ 20) : rng (jms μ (14 + p) 3 z) := jlt4 (P := fun p => rng (jms μ (14 + p) 3 z)) (rng_ms (k := 14) h h0 h1) (rng_ms (k := 15) h h0 h1) (rng_ms (k := 16) h h0 h1) (rng_ms (k := 17) h h0 h1) hp
theorem rg_DO_4 {μ : Mem} (h : rng μ) {p : Nat} (hp : p < 4) : 0 ≤ μ (14 + p) 4 ∧ μ (14 + p) 4 ≤ 1 := jlt4 (P := fun p => 0 ≤ μ (14 + p) 4 ∧ μ (14 + p) 4 ≤ 1) (h 14 4) (h 15 4) (h 16 4) (h 17 4) hp
theorem rs_DO_4 {μ : Mem} (h : rng μ) {p : Nat} (hp : p < 4) {z : Int} (h0 : 0 ≤ z) (h1 : z ≤ 1) : rng (jms μ (14 + p) 4 z) := jlt4 (P := fun p => rng (jms μ (14 + p) 4 z)) (rng_ms (k := 14) h h0 h1) (rng_ms (k := 15) h h0 h1) (rng_ms (k := 16) h h0 h1) (rng_ms (k := 17) h h0 h1) hp
theorem rg_va {μ : Mem} (h : rng μ) {p : Nat} (hp : p < 4) (j : Nat) : (-1) ≤ μ (18 + p) j ∧ μ (18 + p) j ≤ 255 := jlt4 (P := fun p => (-1) ≤ μ (18 + p) j ∧ μ (18 + p) j ≤ 255) (h 18 j) (h 19 j) (h 20 j) (h 21 j) hp
theorem rs_va {μ : Mem} (h : rng μ) {p : Nat} (hp : p < 4) (j : Nat) {z : Int} (h0 : (-1) ≤ z) (h1 : z ≤ 255) : rng (jms μ (18 + p) j z) := jlt4 (P := fun p => rng (jms μ (18 + p) j z)) (rng_ms (k := 18) h h0 h1) (rng_ms (k := 19) h h0 h1) (rng_ms (k := 20) h h0 h1) (rng_ms (k := 21) h h0 h1) hp
theorem rg_sc {μ : Mem} (h : rng μ) {p : Nat} (hp : p < 4) (j : Nat) : 0 ≤ μ (22 + p) j ∧ μ (22 + p) j ≤ 585225 := jlt4 (P := fun p => 0 ≤ μ (22 + p) j ∧ μ (22 + p) j ≤ 585225) (h 22 j) (h 23 j) (h 24 j) (h 25 j) hp
theorem rs_sc {μ : Mem} (h : rng μ) {p : Nat} (hp : p < 4) (j : Nat) {z : Int} (h0 : 0 ≤ z) (h1 : z ≤ 585225) : rng (jms μ (22 + p) j z) := jlt4 (P := fun p => rng (jms μ (22 + p) j z)) (rng_ms (k := 22) h h0 h1) (rng_ms (k := 23) h h0 h1) (rng_ms (k := 24) h h0 h1) (rng_ms (k := 25) h h0 h1) hp
theorem rg_MA_4 {μ : Mem} (h : rng μ) {p : Nat} (hp : p < 4) : 0 ≤ μ (26 + p) 4 ∧ μ (26 + p) 4 ≤ 16 := jlt4 (P := fun p => 0 ≤ μ (26 + p) 4 ∧ μ (26 + p) 4 ≤ 16) (h 26 4) (h 27 4) (h 28 4) (h 29 4) hp
theorem rs_MA_4 {μ : Mem} (h : rng μ) {p : Nat} (hp : p < 4) {z : Int} (h0 : 0 ≤ z) (h1 : z ≤ 16) : rng (jms μ (26 + p) 4 z) := jlt4 (P := fun p => rng (jms μ (26 + p) 4 z)) (rng_ms (k := 26) h h0 h1) (rng_ms (k := 27) h h0 h1) (rng_ms (k := 28) h h0 h1) (rng_ms (k := 29) h h0 h1) hp
theorem rg_co {μ : Mem} (h : rng μ) {p : Nat} (hp : p < 4) (j : Nat) : 0 ≤ μ (30 + p) j ∧ μ (30 + p) j ≤ 19 := jlt4 (P := fun p => 0 ≤ μ (30 + p) j ∧ μ (30 + p) j ≤ 19) (h 30 j) (h 31 j) (h 32 j) (h 33 j) hp
theorem rs_co {μ : Mem} (h : rng μ) {p : Nat} (hp : p < 4) (j : Nat) {z : Int} (h0 : 0 ≤ z) (h1 : z ≤ 19) : rng (jms μ (30 + p) j z) := jlt4 (P := fun p => rng (jms μ (30 + p) j z)) (rng_ms (k := 30) h h0 h1) (rng_ms (k := 31) h h0 h1) (rng_ms (k := 32) h h0 h1) (rng_ms (k := 33) h h0 h1) hp
theorem rg_ro {μ : Mem} (h : rng μ) {p : Nat} (hp : p < 4) (j : Nat) : 0 ≤ μ (34 + p) j ∧ μ (34 + p) j ≤ 19 := jlt4 (P := fun p => 0 ≤ μ (34 + p) j ∧ μ (34 + p) j ≤ 19) (h 34 j) (h 35 j) (h 36 j) (h 37 j) hp
theorem rs_ro {μ : Mem} (h : rng μ) {p : Nat} (hp : p < 4) (j : Nat) {z : Int} (h0 : 0 ≤ z) (h1 : z ≤ 19) : rng (jms μ (34 + p) j z) := jlt4 (P := fun p => rng (jms μ (34 + p) j z)) (rng_ms (k := 34) h h0 h1) (rng_ms (k := 35) h h0 h1) (rng_ms (k := 36) h h0 h1) (rng_ms (k := 37) h h0 h1) hp
theorem rg_he {μ : Mem} (h : rng μ) {p : Nat} (hp : p < 4) (j : Nat) : 0 ≤ μ (38 + p) j ∧ μ (38 + p) j ≤ 585225 := jlt4 (P := fun p => 0 ≤ μ (38 + p) j ∧ μ (38 + p) j ≤ 585225) (h 38 j) (h 39 j) (h 40 j) (h 41 j) hp
theorem rs_he {μ : Mem} (h : rng μ) {p : Nat} (hp : p < 4) (j : Nat) {z : Int} (h0 : 0 ≤ z) (h1 : z ≤ 585225) : rng (jms μ (38 + p) j z) := jlt4 (P := fun p => rng (jms μ (38 + p) j z)) (rng_ms (k := 38) h h0 h1) (rng_ms (k := 39) h h0 h1) (rng_ms (k := 40) h h0 h1) (rng_ms (k := 41) h h0 h1) hp
theorem rg_si {μ : Mem} (h : rng μ) {p : Nat} (hp : p < 4) (j : Nat) : 0 ≤ μ (42 + p) j ∧ μ (42 + p) j ≤ 4095 := jlt4 (P := fun p => 0 ≤ μ (42 + p) j ∧ μ (42 + p) j ≤ 4095) (h 42 j) (h 43 j) (h 44 j) (h 45 j) hp
theorem rs_si {μ : Mem} (h : rng μ) {p : Nat} (hp : p < 4) (j : Nat) {z : Int} (h0 : 0 ≤ z) (h1 : z ≤ 4095) : rng (jms μ (42 + p) j z) := jlt4 (P := fun p => rng (jms μ (42 + p) j z)) (rng_ms (k := 42) h h0 h1) (rng_ms (k := 43) h h0 h1) (rng_ms (k := 44) h h0 h1) (rng_ms (k := 45) h h0 h1) hp
theorem rg_PA_1 {μ : Mem} (h : rng μ) {p : Nat} (hp : p < 16) : 0 ≤ μ (46 + p) 1 ∧ μ (46 + p) 1 ≤ 16 := jlt16 (P := fun p => 0 ≤ μ (46 + p) 1 ∧ μ (46 + p) 1 ≤ 16) (h 46 1) (h 47 1) (h 48 1) (h 49 1) (h 50 1) (h 51 1) (h 52 1) (h 53 1) (h 54 1) (h 55 1) (h 56 1) (h 57 1) (h 58 1) (h 59 1) (h 60 1) (h 61 1) hp
theorem rs_PA_1 {μ : Mem} (h : rng μ) {p : Nat} (hp : p < 16) {z : Int} (h0 : 0 ≤ z) (h1 : z ≤ 16) : rng (jms μ (46 + p) 1 z) := jlt16 (P := fun p => rng (jms μ (46 + p) 1 z)) (rng_ms (k := 46) h h0 h1) (rng_ms (k := 47) h h0 h1) (rng_ms (k := 48) h h0 h1) (rng_ms (k := 49) h h0 h1) (rng_ms (k := 50) h h0 h1) (rng_ms (k := 51) h h0 h1) (rng_ms (k := 52) h h0 h1) (rng_ms (k := 53) h h0 h1) (rng_ms (k := 54) h h0 h1) (rng_ms (k := 55) h h0 h1) (rng_ms (k := 56) h h0 h1) (rng_ms (k := 57) h h0 h1) (rng_ms (k := 58) h h0 h1) (rng_ms (k := 59) h h0 h1) (rng_ms (k := 60) h h0 h1) (rng_ms (k := 61) h h0 h1) hp
theorem rg_PA_2 {μ : Mem} (h : rng μ) {p : Nat} (hp : p < 16) : 0 ≤ μ (46 + p) 2 ∧ μ (46 + p) 2 ≤ 16 := jlt16 (P := fun p => 0 ≤ μ (46 + p) 2 ∧ μ (46 + p) 2 ≤ 16) (h 46 2) (h 47 2) (h 48 2) (h 49 2) (h 50 2) (h 51 2) (h 52 2) (h 53 2) (h 54 2) (h 55 2) (h 56 2) (h 57 2) (h 58 2) (h 59 2) (h 60 2) (h 61 2) hp
theorem rs_PA_2 {μ : Mem} (h : rng μ) {p : Nat} (hp : p < 16) {z : Int} (h0 : 0 ≤ z) (h1 : z ≤ 16) : rng (jms μ (46 + p) 2 z) := jlt16 (P := fun p => rng (jms μ (46 + p) 2 z)) (rng_ms (k := 46) h h0 h1) (rng_ms (k := 47) h h0 h1) (rng_ms (k := 48) h h0 h1) (rng_ms (k := 49) h h0 h1) (rng_ms (k := 50) h h0 h1) (rng_ms (k := 51) h h0 h1) (rng_ms (k := 52) h h0 h1) (rng_ms (k := 53) h h0 h1) (rng_ms (k := 54) h h0 h1) (rng_ms (k := 55) h h0 h1) (rng_ms (k := 56) h h0 h1) (rng_ms (k := 57) h h0 h1) (rng_ms (k := 58) h h0 h1) (rng_ms (k := 59) h h0 h1) (rng_ms (k := 60) h h0 h1) (rng_ms (k := 61) h h0 h1) hp
theorem rg_PA_3 {μ : Mem} (h : rng μ) {p : Nat} (hp : p < 16) : (-20) ≤ μ (46 + p) 3 ∧ μ (46 + p) 3 ≤ 20 := jlt16 (P := fun p => (-20) ≤ μ (46 + p) 3 ∧ μ (46 + p) 3 ≤ 20) (h 46 3) (h 47 3) (h 48 3) (h 49 3) (h 50 3) (h 51 3) (h 52 3) (h 53 3) (h 54 3) (h 55 3) (h 56 3) (h 57 3) (h 58 3) (h 59 3) (h 60 3) (h 61 3) hp
theorem rs_PA_3 {μ : Mem} (h : rng μ) {p : Nat} (hp : p < 16) {z : Int} (h0 : (-20) ≤ z) (h1 : z ≤ 20) : rng (jms μ (46 + p) 3 z) := jlt16 (P := fun p => rng (jms μ (46 + p) 3 z)) (rng_ms (k := 46) h h0 h1) (rng_ms (k := 47) h h0 h1) (rng_ms (k := 48) h h0 h1) (rng_ms (k := 49) h h0 h1) (rng_ms (k := 50) h h0 h1) (rng_ms (k := 51) h h0 h1) (rng_ms (k := 52) h h0 h1) (rng_ms (k := 53) h h0 h1) (rng_ms (k := 54) h h0 h1) (rng_ms (k := 55) h h0 h1) (rng_ms (k := 56) h h0 h1) (rng_ms (k := 57) h h0 h1) (rng_ms (k := 58) h h0 h1) (rng_ms (k := 59) h h0 h1) (rng_ms (k := 60) h h0 h1) (rng_ms (k := 61) h h0 h1) hp
theorem rg_PA_4 {μ : Mem} (h : rng μ) {p : Nat} (hp : p < 16) : (-20) ≤ μ (46 + p) 4 ∧ μ (46 + p) 4 ≤ 20 := jlt16 (P := fun p => (-20) ≤ μ (46 + p) 4 ∧ μ (46 + p) 4 ≤ 20) (h 46 4) (h 47 4) (h 48 4) (h 49 4) (h 50 4) (h 51 4) (h 52 4) (h 53 4) (h 54 4) (h 55 4) (h 56 4) (h 57 4) (h 58 4) (h 59 4) (h 60 4) (h 61 4) hp
theorem rs_PA_4 {μ : Mem} (h : rng μ) {p : Nat} (hp : p < 16) {z : Int} (h0 : (-20) ≤ z) (h1 : z ≤ 20) : rng (jms μ (46 + p) 4 z) := jlt16 (P := fun p => rng (jms μ (46 + p) 4 z)) (rng_ms (k := 46) h h0 h1) (rng_ms (k := 47) h h0 h1) (rng_ms (k := 48) h h0 h1) (rng_ms (k := 49) h h0 h1) (rng_ms (k := 50) h h0 h1) (rng_ms (k := 51) h h0 h1) (rng_ms (k := 52) h h0 h1) (rng_ms (k := 53) h h0 h1) (rng_ms (k := 54) h h0 h1) (rng_ms (k := 55) h h0 h1) (rng_ms (k := 56) h h0 h1) (rng_ms (k := 57) h h0 h1) (rng_ms (k := 58) h h0 h1) (rng_ms (k := 59) h h0 h1) (rng_ms (k := 60) h h0 h1) (rng_ms (k := 61) h h0 h1) hp
theorem rg_pa {μ : Mem} (h : rng μ) {p : Nat} (hp : p < 16) (j : Nat) : (-6) ≤ μ (62 + p) j ∧ μ (62 + p) j ≤ 15 := jlt16 (P := fun p => (-6) ≤ μ (62 + p) j ∧ μ (62 + p) j ≤ 15) (h 62 j) (h 63 j) (h 64 j) (h 65 j) (h 66 j) (h 67 j) (h 68 j) (h 69 j) (h 70 j) (h 71 j) (h 72 j) (h 73 j) (h 74 j) (h 75 j) (h 76 j) (h 77 j) hp
theorem rs_pa {μ : Mem} (h : rng μ) {p : Nat} (hp : p < 16) (j : Nat) {z : Int} (h0 : (-6) ≤ z) (h1 : z ≤ 15) : rng (jms μ (62 + p) j z) := jlt16 (P := fun p => rng (jms μ (62 + p) j z)) (rng_ms (k := 62) h h0 h1) (rng_ms (k := 63) h h0 h1) (rng_ms (k := 64) h h0 h1) (rng_ms (k := 65) h h0 h1) (rng_ms (k := 66) h h0 h1) (rng_ms (k := 67) h h0 h1) (rng_ms (k := 68) h h0 h1) (rng_ms (k := 69) h h0 h1) (rng_ms (k := 70) h h0 h1) (rng_ms (k := 71) h h0 h1) (rng_ms (k := 72) h h0 h1) (rng_ms (k := 73) h h0 h1) (rng_ms (k := 74) h h0 h1) (rng_ms (k := 75) h h0 h1) (rng_ms (k := 76) h h0 h1) (rng_ms (k := 77) h h0 h1) hp
theorem rg_MO_0 {μ : Mem} (h : rng μ) : (-2147483648) ≤ μ 78 0 ∧ μ 78 0 ≤ 2147483647 := h 78 0
theorem rs_MO_0 {μ : Mem} (h : rng μ) {z : Int} (h0 : (-2147483648) ≤ z) (h1 : z ≤ 2147483647) : rng (jms μ 78 0 z) := rng_ms h h0 h1
theorem rg_MO_1 {μ : Mem} (h : rng μ) : 0 ≤ μ 78 1 ∧ μ 78 1 ≤ 4 := h 78 1
theorem rs_MO_1 {μ : Mem} (h : rng μ) {z : Int} (h0 : 0 ≤ z) (h1 : z ≤ 4) : rng (jms μ 78 1 z) := rng_ms h h0 h1
theorem rg_MO_5 {μ : Mem} (h : rng μ) : 1 ≤ μ 78 5 ∧ μ 78 5 ≤ 1000000 := h 78 5
theorem rs_MO_5 {μ : Mem} (h : rng μ) {z : Int} (h0 : 1 ≤ z) (h1 : z ≤ 1000000) : rng (jms μ 78 5 z) := rng_ms h h0 h1
theorem rg_MO_6 {μ : Mem} (h : rng μ) : 0 ≤ μ 78 6 ∧ μ 78 6 ≤ 12 := h 78 6
theorem rs_MO_6 {μ : Mem} (h : rng μ) {z : Int} (h0 : 0 ≤ z) (h1 : z ≤ 12) : rng (jms μ 78 6 z) := rng_ms h h0 h1
theorem rg_MO_7 {μ : Mem} (h : rng μ) : 0 ≤ μ 78 7 ∧ μ 78 7 ≤ 1 := h 78 7
theorem rs_MO_7 {μ : Mem} (h : rng μ) {z : Int} (h0 : 0 ≤ z) (h1 : z ≤ 1) : rng (jms μ 78 7 z) := rng_ms h h0 h1
theorem rg_MO_17 {μ : Mem} (h : rng μ) : 0 ≤ μ 78 17 ∧ μ 78 17 ≤ 4 := h 78 17
theorem rs_MO_17 {μ : Mem} (h : rng μ) {z : Int} (h0 : 0 ≤ z) (h1 : z ≤ 4) : rng (jms μ 78 17 z) := rng_ms h h0 h1
theorem rg_MO_22 {μ : Mem} (h : rng μ) : (-3000) ≤ μ 78 22 ∧ μ 78 22 ≤ 3000 := h 78 22
theorem rs_MO_22 {μ : Mem} (h : rng μ) {z : Int} (h0 : (-3000) ≤ z) (h1 : z ≤ 3000) : rng (jms μ 78 22 z) := rng_ms h h0 h1
theorem rg_MO_23 {μ : Mem} (h : rng μ) : (-3000) ≤ μ 78 23 ∧ μ 78 23 ≤ 3000 := h 78 23
theorem rs_MO_23 {μ : Mem} (h : rng μ) {z : Int} (h0 : (-3000) ≤ z) (h1 : z ≤ 3000) : rng (jms μ 78 23 z) := rng_ms h h0 h1
theorem rg_MO_24 {μ : Mem} (h : rng μ) : (-6000) ≤ μ 78 24 ∧ μ 78 24 ≤ 6000 := h 78 24
theorem rs_MO_24 {μ : Mem} (h : rng μ) {z : Int} (h0 : (-6000) ≤ z) (h1 : z ≤ 6000) : rng (jms μ 78 24 z) := rng_ms h h0 h1
theorem rg_MO_25 {μ : Mem} (h : rng μ) : (-6000) ≤ μ 78 25 ∧ μ 78 25 ≤ 6000 := h 78 25
theorem rs_MO_25 {μ : Mem} (h : rng μ) {z : Int} (h0 : (-6000) ≤ z) (h1 : z ≤ 6000) : rng (jms μ 78 25 z) := rng_ms h h0 h1
theorem rg_79 {μ : Mem} (h : rng μ) (j : Nat) : 0 ≤ μ 79 j ∧ μ 79 j ≤ 20 := h 79 j
theorem rs_79 {μ : Mem} (h : rng μ) (j : Nat) {z : Int} (h0 : 0 ≤ z) (h1 : z ≤ 20) : rng (jms μ 79 j z) := rng_ms h h0 h1
theorem rg_80 {μ : Mem} (h : rng μ) (j : Nat) : 0 ≤ μ 80 j ∧ μ 80 j ≤ 20 := h 80 j
theorem rs_80 {μ : Mem} (h : rng μ) (j : Nat) {z : Int} (h0 : 0 ≤ z) (h1 : z ≤ 20) : rng (jms μ 80 j z) := rng_ms h h0 h1
theorem rg_81 {μ : Mem} (h : rng μ) (j : Nat) : (-1) ≤ μ 81 j ∧ μ 81 j ≤ 255 := h 81 j
theorem rs_81 {μ : Mem} (h : rng μ) (j : Nat) {z : Int} (h0 : (-1) ≤ z) (h1 : z ≤ 255) : rng (jms μ 81 j z) := rng_ms h h0 h1
theorem rg_82 {μ : Mem} (h : rng μ) (j : Nat) : 0 ≤ μ 82 j ∧ μ 82 j ≤ 585225 := h 82 j
theorem rs_82 {μ : Mem} (h : rng μ) (j : Nat) {z : Int} (h0 : 0 ≤ z) (h1 : z ≤ 585225) : rng (jms μ 82 j z) := rng_ms h h0 h1
theorem rg_83 {μ : Mem} (h : rng μ) (j : Nat) : 0 ≤ μ 83 j ∧ μ 83 j ≤ 16 := h 83 j
theorem rs_83 {μ : Mem} (h : rng μ) (j : Nat) {z : Int} (h0 : 0 ≤ z) (h1 : z ≤ 16) : rng (jms μ 83 j z) := rng_ms h h0 h1
theorem rg_84 {μ : Mem} (h : rng μ) (j : Nat) : 0 ≤ μ 84 j ∧ μ 84 j ≤ 1599 := h 84 j
theorem rs_84 {μ : Mem} (h : rng μ) (j : Nat) {z : Int} (h0 : 0 ≤ z) (h1 : z ≤ 1599) : rng (jms μ 84 j z) := rng_ms h h0 h1
theorem rg_85 {μ : Mem} (h : rng μ) (j : Nat) : 0 ≤ μ 85 j ∧ μ 85 j ≤ 4095 := h 85 j
theorem rs_85 {μ : Mem} (h : rng μ) (j : Nat) {z : Int} (h0 : 0 ≤ z) (h1 : z ≤ 4095) : rng (jms μ 85 j z) := rng_ms h h0 h1
theorem rg_86 {μ : Mem} (h : rng μ) (j : Nat) : (-6) ≤ μ 86 j ∧ μ 86 j ≤ 15 := h 86 j
theorem rs_86 {μ : Mem} (h : rng μ) (j : Nat) {z : Int} (h0 : (-6) ≤ z) (h1 : z ≤ 15) : rng (jms μ 86 j z) := rng_ms h h0 h1
theorem rg_87 {μ : Mem} (h : rng μ) (j : Nat) : (-20) ≤ μ 87 j ∧ μ 87 j ≤ 20 := h 87 j
theorem rs_87 {μ : Mem} (h : rng μ) (j : Nat) {z : Int} (h0 : (-20) ≤ z) (h1 : z ≤ 20) : rng (jms μ 87 j z) := rng_ms h h0 h1
theorem rg_88 {μ : Mem} (h : rng μ) (j : Nat) : (-20) ≤ μ 88 j ∧ μ 88 j ≤ 20 := h 88 j
theorem rs_88 {μ : Mem} (h : rng μ) (j : Nat) {z : Int} (h0 : (-20) ≤ z) (h1 : z ≤ 20) : rng (jms μ 88 j z) := rng_ms h h0 h1
theorem rg_89 {μ : Mem} (h : rng μ) (j : Nat) : 0 ≤ μ 89 j ∧ μ 89 j ≤ 16 := h 89 j
theorem rs_89 {μ : Mem} (h : rng μ) (j : Nat) {z : Int} (h0 : 0 ≤ z) (h1 : z ≤ 16) : rng (jms μ 89 j z) := rng_ms h h0 h1
theorem rg_90 {μ : Mem} (h : rng μ) (j : Nat) : 0 ≤ μ 90 j ∧ μ 90 j ≤ 16 := h 90 j
theorem rs_90 {μ : Mem} (h : rng μ) (j : Nat) {z : Int} (h0 : 0 ≤ z) (h1 : z ≤ 16) : rng (jms μ 90 j z) := rng_ms h h0 h1
theorem rg_91 {μ : Mem} (h : rng μ) (j : Nat) : (-1000) ≤ μ 91 j ∧ μ 91 j ≤ 1000 := h 91 j
theorem rs_91 {μ : Mem} (h : rng μ) (j : Nat) {z : Int} (h0 : (-1000) ≤ z) (h1 : z ≤ 1000) : rng (jms μ 91 j z) := rng_ms h h0 h1
theorem rg_92 {μ : Mem} (h : rng μ) (j : Nat) : (-1000) ≤ μ 92 j ∧ μ 92 j ≤ 1000 := h 92 j
theorem rs_92 {μ : Mem} (h : rng μ) (j : Nat) {z : Int} (h0 : (-1000) ≤ z) (h1 : z ≤ 1000) : rng (jms μ 92 j z) := rng_ms h h0 h1
theorem rg_93 {μ : Mem} (h : rng μ) (j : Nat) : (-6) ≤ μ 93 j ∧ μ 93 j ≤ 3 := h 93 j
theorem rs_93 {μ : Mem} (h : rng μ) (j : Nat) {z : Int} (h0 : (-6) ≤ z) (h1 : z ≤ 3) : rng (jms μ 93 j z) := rng_ms h h0 h1
theorem rg_94 {μ : Mem} (h : rng μ) (j : Nat) : (-6) ≤ μ 94 j ∧ μ 94 j ≤ 3 := h 94 j
theorem rs_94 {μ : Mem} (h : rng μ) (j : Nat) {z : Int} (h0 : (-6) ≤ z) (h1 : z ≤ 3) : rng (jms μ 94 j z) := rng_ms h h0 h1
theorem rg_95 {μ : Mem} (h : rng μ) (j : Nat) : 0 ≤ μ 95 j ∧ μ 95 j ≤ 5100 := h 95 j
theorem rs_95 {μ : Mem} (h : rng μ) (j : Nat) {z : Int} (h0 : 0 ≤ z) (h1 : z ≤ 5100) : rng (jms μ 95 j z) := rng_ms h h0 h1
theorem jtd {a b : Int} (h : 0 ≤ a) : a.tdiv b = a / b := Int.tdiv_eq_ediv_of_nonneg h
theorem jtm {a b : Int} (h : 0 ≤ a) : a.tmod b = a % b := Int.tmod_eq_emod_of_nonneg h
def jfew : List (Option Sv) → List (Option Sv) → Prop
  | [], _ => True
  | none :: a, [] => jfew a []
  | none :: a, _ :: b => jfew a b
  | some _ :: _, [] => False
  | some v :: a, w :: b => w = some v ∧ jfew a b
theorem jfew_ok : ∀ {L' L : List (Option Sv)}, jfew L' L → ∀ {i : Nat} {v : Sv}, L'[i]? = some (some v) → L[i]? = some (some v)
  | [], _, _, i, v, h => by simp at h
  | none :: a, [], hf, i, v, h => by
    cases i with
    | zero => simp at h
    | succ i => rw [List.getElem?_cons_succ] at h; have := jfew_ok (L' := a) (L := []) hf h; simp at this
  | none :: a, w :: b, hf, i, v, h => by
    cases i with
    | zero => simp at h
    | succ i => rw [List.getElem?_cons_succ] at h ⊢; exact jfew_ok (L' := a) (L := b) hf h
  | some u :: a, [], hf, i, v, h => hf.elim
  | some u :: a, w :: b, hf, i, v, h => by
    cases i with
    | zero => rw [List.getElem?_cons_zero] at h ⊢; rw [hf.1]; exact h
    | succ i => rw [List.getElem?_cons_succ] at h ⊢; exact jfew_ok (L' := a) (L := b) hf.2 h
end
section
/-! what dots, scores and signs are, over Int -/
def dgt (W H : Int) (v : Nat → Int) (i j : Int) : Int := if 0 ≤ i ∧ i < W ∧ 0 ≤ j ∧ j < H then v (j * 20 + i).toNat else -1
theorem dgt_in {W H : Int} {v : Nat → Int} {i j : Int} (h : 0 ≤ i ∧ i < W ∧ 0 ≤ j ∧ j < H) : dgt W H v i j = v (j * 20 + i).toNat := if_pos h
theorem dgt_out {W H : Int} {v : Nat → Int} {i j : Int} (h : ¬ (0 ≤ i ∧ i < W ∧ 0 ≤ j ∧ j < H)) : dgt W H v i j = -1 := if_neg h
theorem dgt_rng {W H : Int} {v : Nat → Int} (h : ∀ t, -1 ≤ v t ∧ v t ≤ 255) (i j : Int) : -1 ≤ dgt W H v i j ∧ dgt W H v i j ≤ 255 := by
  unfold dgt
  split
  · exact h _
  · omega
def wayx (w : Nat) : Int := if w = 1 then 0 else 1
def wayy (w : Nat) : Int := if w = 0 then 0 else if w = 3 then -1 else 1
/-- the k-th of the nine terms of a way's sum; -1: lost -/
def cht (d : Int → Int → Int) (i j wx wy : Int) (k : Nat) : Int :=
  if d (i - 1 + ((k % 3 : Nat) : Int)) (j - 1 + ((k / 3 : Nat) : Int)) = -1 ∨ d (i - 1 + ((k % 3 : Nat) : Int) + wx) (j - 1 + ((k / 3 : Nat) : Int) + wy) = -1 then -1
  else (d (i - 1 + ((k % 3 : Nat) : Int)) (j - 1 + ((k / 3 : Nat) : Int)) - d (i - 1 + ((k % 3 : Nat) : Int) + wx) (j - 1 + ((k / 3 : Nat) : Int) + wy)) * (d (i - 1 + ((k % 3 : Nat) : Int)) (j - 1 + ((k / 3 : Nat) : Int)) - d (i - 1 + ((k % 3 : Nat) : Int) + wx) (j - 1 + ((k / 3 : Nat) : Int) + wy))
def chs (d : Int → Int → Int) (i j wx wy : Int) : Nat → Int
  | 0 => 0
  | k + 1 => if chs d i j wx wy k = -1 ∨ cht d i j wx wy k = -1 then -1 else chs d i j wx wy k + cht d i j wx wy k
theorem sq_le {a b : Int} (ha : 0 ≤ a ∧ a ≤ 255) (hb : 0 ≤ b ∧ b ≤ 255) : 0 ≤ (a - b) * (a - b) ∧ (a - b) * (a - b) ≤ 65025 := by
  have h1 : (a - b).natAbs ≤ 255 := by omega
  have h2 : (a - b) * (a - b) = (((a - b).natAbs * (a - b).natAbs : Nat) : Int) := by
    rw [Int.natCast_mul, Int.natAbs_mul_self']
  have h3 : (a - b).natAbs * (a - b).natAbs ≤ 255 * 255 := Nat.mul_le_mul h1 h1
  rw [h2]
  omega
theorem cht_rng {d : Int → Int → Int} (hd : ∀ x y, -1 ≤ d x y ∧ d x y ≤ 255) (i j wx wy : Int) (k : Nat) : -1 ≤ cht d i j wx wy k ∧ cht d i j wx wy k ≤ 65025 := by
  unfold cht
  split
  · omega
  · rename_i h
    have h1 := hd (i - 1 + ((k % 3 : Nat) : Int)) (j - 1 + ((k / 3 : Nat) : Int))
    have h2 := hd (i - 1 + ((k % 3 : Nat) : Int) + wx) (j - 1 + ((k / 3 : Nat) : Int) + wy)
    have := sq_le (a := d (i - 1 + ((k % 3 : Nat) : Int)) (j - 1 + ((k / 3 : Nat) : Int))) (b := d (i - 1 + ((k % 3 : Nat) : Int) + wx) (j - 1 + ((k / 3 : Nat) : Int) + wy)) (by omega) (by omega)
    omega
theorem chs_rng {d : Int → Int → Int} (hd : ∀ x y, -1 ≤ d x y ∧ d x y ≤ 255) (i j wx wy : Int) : ∀ k : Nat, -1 ≤ chs d i j wx wy k ∧ chs d i j wx wy k ≤ k * 65025
  | 0 => by simp [chs]
  | k + 1 => by
    have h1 := chs_rng hd i j wx wy k
    have h2 := cht_rng hd i j wx wy k
    unfold chs
    split
    · omega
    · rename_i h
      omega
theorem chs_step {d : Int → Int → Int} {i j wx wy : Int} {k : Nat} (h0 : chs d i j wx wy k ≠ -1) (h1 : cht d i j wx wy k ≠ -1) : chs d i j wx wy (k + 1) = chs d i j wx wy k + cht d i j wx wy k := by
  rw [chs, if_neg (fun h => h.elim h0 h1)]
theorem chs_lost {d : Int → Int → Int} {i j wx wy : Int} {k : Nat} (h : chs d i j wx wy k = -1 ∨ cht d i j wx wy k = -1) : chs d i j wx wy (k + 1) = -1 := by
  rw [chs, if_pos h]
theorem chs_stays {d : Int → Int → Int} {i j wx wy : Int} {k : Nat} (h : chs d i j wx wy k = -1) : ∀ n, chs d i j wx wy (k + n) = -1
  | 0 => h
  | n + 1 => chs_lost (Or.inl (chs_stays h n))
/-- a way's sum; -1: one of its dots is lost -/
def chv (d : Int → Int → Int) (i j : Int) (w : Nat) : Int := chs d i j (wayx w) (wayy w) 9
def scv (d : Int → Int → Int) (i j : Int) : Int := if chv d i j 0 = -1 ∨ chv d i j 1 = -1 ∨ chv d i j 2 = -1 ∨ chv d i j 3 = -1 then 0 else min (min (min (chv d i j 0) (chv d i j 1)) (chv d i j 2)) (chv d i j 3)
theorem chv_rng {d : Int → Int → Int} (hd : ∀ x y, -1 ≤ d x y ∧ d x y ≤ 255) (i j : Int) (w : Nat) : -1 ≤ chv d i j w ∧ chv d i j w ≤ 585225 := by
  have := chs_rng hd i j (wayx w) (wayy w) 9
  unfold chv
  omega
/-- the score of a dot: 0 at the rim -/
def sco (W H : Int) (d : Int → Int → Int) (i j : Int) : Int := if 3 ≤ i ∧ i ≤ W - 4 ∧ 3 ≤ j ∧ j ≤ H - 4 then scv d i j else 0
theorem scv_rng {d : Int → Int → Int} (hd : ∀ x y, -1 ≤ d x y ∧ d x y ≤ 255) (i j : Int) : 0 ≤ scv d i j ∧ scv d i j ≤ 585225 := by
  have h0 := chv_rng hd i j 0
  have h1 := chv_rng hd i j 1
  have h2 := chv_rng hd i j 2
  have h3 := chv_rng hd i j 3
  unfold scv
  split <;> omega
theorem sco_rng {W H : Int} {d : Int → Int → Int} (hd : ∀ x y, -1 ≤ d x y ∧ d x y ≤ 255) (i j : Int) : 0 ≤ sco W H d i j ∧ sco W H d i j ≤ 585225 := by
  unfold sco
  split
  · exact scv_rng hd i j
  · omega
theorem cht_at {d : Int → Int → Int} {i j wx wy col row : Int} {r c : Nat} (hcol : col = i - 1 + (c : Int)) (hrow : row = j - 1 + (r : Int)) (hc : c < 3) : cht d i j wx wy (3 * r + c) = if d col row = -1 ∨ d (col + wx) (row + wy) = -1 then -1 else (d col row - d (col + wx) (row + wy)) * (d col row - d (col + wx) (row + wy)) := by
  unfold cht
  rw [show (3 * r + c) % 3 = c by omega, show (3 * r + c) / 3 = r by omega, ← hcol, ← hrow]
theorem chs_next {d : Int → Int → Int} (hd : ∀ x y, -1 ≤ d x y ∧ d x y ≤ 255) {i j wx wy col row : Int} {r c : Nat} (hne : chs d i j wx wy (3 * r + c) ≠ -1) (hcol : col = i - 1 + (c : Int)) (hrow : row = j - 1 + (r : Int)) (hc : c < 3) (h1 : ¬ d col row = -1) (h2 : ¬ d (col + wx) (row + wy) = -1) : chs d i j wx wy (3 * r + (c + 1)) = chs d i j wx wy (3 * r + c) + (d col row - d (col + wx) (row + wy)) * (d col row - d (col + wx) (row + wy)) ∧ chs d i j wx wy (3 * r + (c + 1)) ≠ -1 := by
  have e := cht_at (d := d) (wx := wx) (wy := wy) hcol hrow hc
  rw [if_neg (fun h => h.elim h1 h2)] at e
  have g1 := hd col row
  have g2 := hd (col + wx) (row + wy)
  have g3 := sq_le (a := d col row) (b := d (col + wx) (row + wy)) (by omega) (by omega)
  have g4 := chs_rng hd i j wx wy (3 * r + c)
  have g5 := chs_step (k := 3 * r + c) hne (by rw [e]; omega)
  rw [e] at g5
  rw [show 3 * r + (c + 1) = 3 * r + c + 1 from rfl, g5]
  exact ⟨rfl, by omega⟩
theorem chs_lostat {d : Int → Int → Int} {i j wx wy col row : Int} {r c : Nat} (hcol : col = i - 1 + (c : Int)) (hrow : row = j - 1 + (r : Int)) (hc : c < 3) (hr : r < 3) (h : d col row = -1 ∨ d (col + wx) (row + wy) = -1) : chs d i j wx wy 9 = -1 := by
  have e := cht_at (d := d) (wx := wx) (wy := wy) hcol hrow hc
  rw [if_pos h] at e
  have := chs_stays (chs_lost (Or.inr e)) (8 - (3 * r + c))
  rwa [show 3 * r + c + 1 + (8 - (3 * r + c)) = 9 by omega] at this
/-- a kept score: 0 outside -/
def kgt (W H : Int) (v : Nat → Int) (i j : Int) : Int := if 0 ≤ i ∧ i < W ∧ 0 ≤ j ∧ j < H then v (j * 20 + i).toNat else 0
theorem kgt_in {W H : Int} {v : Nat → Int} {i j : Int} (h : 0 ≤ i ∧ i < W ∧ 0 ≤ j ∧ j < H) : kgt W H v i j = v (j * 20 + i).toNat := if_pos h
theorem kgt_out {W H : Int} {v : Nat → Int} {i j : Int} (h : ¬ (0 ≤ i ∧ i < W ∧ 0 ≤ j ∧ j < H)) : kgt W H v i j = 0 := if_neg h
theorem kgt_rng {W H : Int} {v : Nat → Int} (h : ∀ t, 0 ≤ v t ∧ v t ≤ 585225) (i j : Int) : 0 ≤ kgt W H v i j ∧ kgt W H v i j ≤ 585225 := by
  unfold kgt
  split
  · exact h _
  · omega
/-- the k-th of the 25 dots about one: not greater, and not the same if it comes ahead -/
def pkt (f : Int → Int → Int) (i j : Int) (k : Nat) : Prop := f (i - 2 + ((k % 5 : Nat) : Int)) (j - 2 + ((k / 5 : Nat) : Int)) ≤ f i j ∧ (k < 12 → f (i - 2 + ((k % 5 : Nat) : Int)) (j - 2 + ((k / 5 : Nat) : Int)) ≠ f i j)
def pk (f : Int → Int → Int) (i j : Int) : Prop := ∀ k : Nat, k < 25 → pkt f i j k
theorem pkt_at {f : Int → Int → Int} {i j col row : Int} {r c : Nat} (hcol : col = i - 2 + (c : Int)) (hrow : row = j - 2 + (r : Int)) (hc : c < 5) : pkt f i j (5 * r + c) ↔ f col row ≤ f i j ∧ ((row < j ∨ (row = j ∧ col < i)) → f col row ≠ f i j) := by
  unfold pkt
  rw [show (5 * r + c) % 5 = c by omega, show (5 * r + c) / 5 = r by omega, ← hcol, ← hrow]
  exact ⟨fun h => ⟨h.1, fun g => h.2 (by omega)⟩, fun h => ⟨h.1, fun g => h.2 (by omega)⟩⟩
theorem jlt_s {P : Nat → Prop} {n : Nat} (h : ∀ k, k < n → P k) (hn : P n) : ∀ k, k < n + 1 → P k := by
  intro k hk
  rcases Nat.lt_succ_iff_lt_or_eq.mp hk with h1 | rfl
  · exact h k h1
  · exact hn
def sgn (d : Int → Int → Int) (i j : Int) : Nat → Int
  | 0 => 0
  | n + 1 => if d (i + (n : Int) % 5 - 2) (j + (n : Int) % 3 - 1) < d (i + 2 - (n : Int) % 4) (j + (n : Int) % 5 - 2) then zor (sgn d i j n) (zshl 1 (n : Int)) else sgn d i j n
theorem zshl1 : ∀ n : Nat, n < 12 → zshl 1 (n : Int) = ((2 ^ n : Nat) : Int) := by decide +kernel
theorem zI_nat (n : Nat) : zI (n : Int) = Int32.ofNat n := Int32.ofInt_eq_ofNat
theorem zor_nat {a b : Nat} (h : a ||| b < 2147483648) : zor (a : Int) (b : Int) = ((a ||| b : Nat) : Int) := by
  unfold zor
  rw [zI_nat, zI_nat]
  have e : Int32.ofNat a ||| Int32.ofNat b = Int32.ofNat (a ||| b) := by
    apply Int32.toBitVec_inj.mp
    rw [Int32.toBitVec_or, Int32.toBitVec_ofNat', Int32.toBitVec_ofNat', Int32.toBitVec_ofNat']
    apply BitVec.eq_of_getLsbD_eq
    intro i hi
    simp [BitVec.getLsbD_or, BitVec.getLsbD_ofNat, hi, Nat.testBit_or]
  rw [e, ← zI_nat, zI_toInt ⟨by omega, by omega⟩]
theorem sgn_rng (d : Int → Int → Int) (i j : Int) : ∀ n : Nat, n ≤ 12 → ∃ m : Nat, sgn d i j n = (m : Int) ∧ m < 2 ^ n
  | 0, _ => ⟨0, rfl, by decide⟩
  | n + 1, h => by
    obtain ⟨m, e, hm⟩ := sgn_rng d i j n (by omega)
    have hp : 2 ^ n < 2 ^ (n + 1) := Nat.pow_lt_pow_right (by decide) (by omega)
    unfold sgn
    split
    · have h1 : m ||| 2 ^ n < 2 ^ (n + 1) := Nat.or_lt_two_pow (by omega) hp
      have h2 : 2 ^ (n + 1) ≤ 2 ^ 12 := Nat.pow_le_pow_right (by decide) h
      rw [e, zshl1 n (by omega), zor_nat (by omega)]
      exact ⟨_, rfl, h1⟩
    · exact ⟨m, e, by omega⟩
theorem sgn12 (d : Int → Int → Int) (i j : Int) : 0 ≤ sgn d i j 12 ∧ sgn d i j 12 ≤ 4095 := by
  obtain ⟨m, e, h⟩ := sgn_rng d i j 12 (by omega)
  rw [e]
  omega
theorem jms_arr (μ : Mem) (k a : Nat) (z : Int) (b : Nat) : jms μ k a z k b = if b = a then z else μ k b := by simp [jms]
/-- what a method that changes nothing answers -/
def rdq (μ : Mem) (v : Int) : Int → Mem → Prop := fun z μ' => v = z ∧ μ = μ'
/-- an answer yes or no, nothing changed -/
def rdc (μ : Mem) (c : Prop) : Int → Mem → Prop := fun z μ' => μ = μ' ∧ ((z = 1 ∧ c) ∨ (z = 0 ∧ ¬ c))
theorem chs_0 (d : Int → Int → Int) (i j wx wy : Int) : chs d i j wx wy 0 ≠ -1 := by simp [chs]
end
section
/-! light, bits -/
def lg0 (s x y : Int) : Int := x / 3 * 73856093 + y / 3 * 19349663 + s * 83492791
def lgm (m : Int) : Int := zxor m (zushr m 15) * 739982445
def lgt (s x y : Int) : Int := zand (zushr (lgm (lgm (lg0 s x y))) 16) 255
theorem zand255 (a : Int) : 0 ≤ zand a 255 ∧ zand a 255 ≤ 255 := by
  obtain ⟨j, hj, e⟩ := pk_andE (zI a) (m := zI 255) 8 (by decide +kernel)
  unfold zand
  rw [e, nI_toInt (by omega)]
  omega
theorem lgt_rng (s x y : Int) : 0 ≤ lgt s x y ∧ lgt s x y ≤ 255 := zand255 _
theorem gl_rng {g l : Int} (hg : 1 ≤ g ∧ g ≤ 64) (hl : 0 ≤ l ∧ l ≤ 255) : 0 ≤ g * l ∧ g * l ≤ 16320 := by
  have h1 : 0 ≤ g * l := Int.mul_nonneg (by omega) hl.1
  have h2 : g * l ≤ 64 * 255 := Int.mul_le_mul hg.2 hl.2 hl.1 (by omega)
  omega
/-- a shot dot -/
def shv (s x y g i j : Int) : Int := min 255 (g * lgt s (x + i) (y + j) / 16)
theorem shv_rng {s x y g i j : Int} (hg : 1 ≤ g ∧ g ≤ 64) : 0 ≤ shv s x y g i j ∧ shv s x y g i j ≤ 255 := by
  have := gl_rng hg (lgt_rng s (x + i) (y + j))
  unfold shv
  omega
theorem zxor_nat {a b : Nat} (h : a ^^^ b < 2147483648) : zxor (a : Int) (b : Int) = ((a ^^^ b : Nat) : Int) := by
  unfold zxor
  rw [zI_nat, zI_nat]
  have e : Int32.ofNat a ^^^ Int32.ofNat b = Int32.ofNat (a ^^^ b) := by
    apply Int32.toBitVec_inj.mp
    rw [Int32.toBitVec_xor, Int32.toBitVec_ofNat', Int32.toBitVec_ofNat', Int32.toBitVec_ofNat']
    apply BitVec.eq_of_getLsbD_eq
    intro i hi
    simp [BitVec.getLsbD_xor, BitVec.getLsbD_ofNat, hi, Nat.testBit_xor]
  rw [e, ← zI_nat, zI_toInt ⟨by omega, by omega⟩]
theorem zxor_sg {a b : Int} (ha : 0 ≤ a ∧ a ≤ 4095) (hb : 0 ≤ b ∧ b ≤ 4095) : 0 ≤ zxor a b ∧ zxor a b ≤ 4095 := by
  obtain ⟨m, rfl⟩ := Int.eq_ofNat_of_zero_le ha.1
  obtain ⟨k, rfl⟩ := Int.eq_ofNat_of_zero_le hb.1
  have h := Nat.xor_lt_two_pow (n := 12) (x := m) (y := k) (by omega) (by omega)
  rw [zxor_nat (by omega)]
  omega
/-- the bits of a set, one by one -/
def bts (z : Int) : Nat → Int
  | 0 => 0
  | k + 1 => bts z k + zand (zshr z (k : Int)) 1
theorem zand1 (a : Int) : 0 ≤ zand a 1 ∧ zand a 1 ≤ 1 := by
  obtain ⟨j, hj, e⟩ := pk_andE (zI a) (m := zI 1) 1 (by decide +kernel)
  unfold zand
  rw [e, nI_toInt (by omega)]
  omega
theorem bts_rng (z : Int) : ∀ k : Nat, 0 ≤ bts z k ∧ bts z k ≤ k
  | 0 => by simp [bts]
  | k + 1 => by
    have h1 := bts_rng z k
    have h2 := zand1 (zshr z (k : Int))
    unfold bts
    omega
/-- what Integer.bitCount works out -/
def bc1 (z : Int) : Int := z - zand (zushr z 1) 1431655765
def bc2 (z : Int) : Int := zand z 858993459 + zand (zushr z 2) 858993459
def bc3 (z : Int) : Int := zand (z + zushr z 4) 252645135
def bc4 (z : Int) : Int := z + zushr z 8
def bc5 (z : Int) : Int := z + zushr z 16
def bcf (z : Int) : Int := zand (bc5 (bc4 (bc3 (bc2 (bc1 z))))) 63
theorem bcf_bts0 : ∀ a : Nat, a < 64 → ∀ b : Nat, b < 64 → bcf ((64 * a + b : Nat) : Int) = bts ((64 * a + b : Nat) : Int) 12 := by decide +kernel
theorem bcf_bts (n : Nat) (h : n < 4096) : bcf (n : Int) = bts (n : Int) 12 := by
  have := bcf_bts0 (n / 64) (by omega) (n % 64) (by omega)
  rwa [show 64 * (n / 64) + n % 64 = n by omega] at this
/-- how many bits two signs differ by -/
def dst (a b : Int) : Int := bts (zxor a b) 12
theorem dst_rng (a b : Int) : 0 ≤ dst a b ∧ dst a b ≤ 12 := by
  have := bts_rng (zxor a b) 12
  unfold dst
  omega
theorem bcf_dst {a b : Int} (ha : 0 ≤ a ∧ a ≤ 4095) (hb : 0 ≤ b ∧ b ≤ 4095) : bcf (zxor a b) = dst a b := by
  have h := zxor_sg ha hb
  unfold dst
  obtain ⟨m, e⟩ := Int.eq_ofNat_of_zero_le h.1
  rw [e] at h ⊢
  exact bcf_bts m (by omega)
end
section
/-! marks: put in by their scores, 16 at most; matches and shifts -/
def plc (S : Nat → Int) (mk : Nat → Nat) (h : Int) : Nat → Nat
  | 0 => 0
  | k + 1 => if S (mk k) < h then plc S mk h k else k + 1
theorem plc_le (S : Nat → Int) (mk : Nat → Nat) (h : Int) : ∀ n, plc S mk h n ≤ n
  | 0 => Nat.le_refl _
  | n + 1 => by
    have := plc_le S mk h n
    unfold plc
    split <;> omega
theorem plc_go {S : Nat → Int} {mk : Nat → Nat} {h : Int} {k : Nat} (hk : 0 < k) (hlt : S (mk (k - 1)) < h) : plc S mk h k = plc S mk h (k - 1) := by
  obtain ⟨j, rfl⟩ : ∃ j, k = j + 1 := ⟨k - 1, by omega⟩
  rw [Nat.add_sub_cancel] at hlt ⊢
  rw [plc, if_pos hlt]
theorem plc_at {S : Nat → Int} {mk : Nat → Nat} {h : Int} {k : Nat} (hk : k = 0 ∨ ¬ S (mk (k - 1)) < h) : plc S mk h k = k := by
  cases k with
  | zero => rfl
  | succ j =>
    rcases hk with h0 | h0
    · omega
    · rw [Nat.add_sub_cancel] at h0
      rw [plc, if_neg h0]
abbrev Mks : Type := Nat × (Nat → Nat)
def ins (S : Nat → Int) (t : Nat) (a : Mks) : Mks := if plc S a.2 (S t) a.1 < 16 then (min (a.1 + 1) 16, fun m => if m < plc S a.2 (S t) a.1 then a.2 m else if m = plc S a.2 (S t) a.1 then t else a.2 (m - 1)) else a
theorem ins_le {S : Nat → Int} {t : Nat} {a : Mks} (h : a.1 ≤ 16) : (ins S t a).1 ≤ 16 := by
  unfold ins
  split
  · exact Nat.min_le_right _ _
  · exact h
theorem ins_all {S : Nat → Int} {t : Nat} {a : Mks} {P : Nat → Prop} (ht : P t) (h : ∀ m, m < a.1 → P (a.2 m)) : ∀ m, m < (ins S t a).1 → P ((ins S t a).2 m) := by
  unfold ins
  have hp := plc_le S a.2 (S t) a.1
  split
  · intro m hm
    dsimp only at hm ⊢
    have := Nat.min_le_left (a.1 + 1) 16
    split
    · exact h m (by omega)
    · split
      · exact ht
      · exact h _ (by omega)
  · exact h
/-- the score of the dot numbered t, by rows -/
def fS (f : Int → Int → Int) (t : Nat) : Int := f ((t % 20 : Nat) : Int) ((t / 20 : Nat) : Int)
def isM (f : Int → Int → Int) (W H bar : Int) (t : Nat) : Prop := ((t % 20 : Nat) : Int) < W ∧ ((t / 20 : Nat) : Int) < H ∧ bar ≤ fS f t ∧ pk f ((t % 20 : Nat) : Int) ((t / 20 : Nat) : Int)
noncomputable def mkf (f : Int → Int → Int) (W H bar : Int) : Nat → Mks
  | 0 => (0, fun _ => 0)
  | t + 1 => @ite _ (isM f W H bar t) (Classical.propDecidable _) (ins (fS f) t (mkf f W H bar t)) (mkf f W H bar t)
theorem mkf_yes {f : Int → Int → Int} {W H bar : Int} {t : Nat} (h : isM f W H bar t) : mkf f W H bar (t + 1) = ins (fS f) t (mkf f W H bar t) := by
  rw [mkf]; exact if_pos h
theorem mkf_no {f : Int → Int → Int} {W H bar : Int} {t : Nat} (h : ¬ isM f W H bar t) : mkf f W H bar (t + 1) = mkf f W H bar t := by
  rw [mkf]; exact if_neg h
theorem mkf_skip {f : Int → Int → Int} {W H bar : Int} (a : Nat) : ∀ n : Nat, (∀ t, a ≤ t → t < a + n → ¬ isM f W H bar t) → mkf f W H bar (a + n) = mkf f W H bar a
  | 0, _ => rfl
  | n + 1, h => by
    rw [← Nat.add_assoc, mkf_no (h _ (by omega) (by omega)), mkf_skip a n (fun t h1 h2 => h t h1 (by omega))]
theorem mkf_skip' {f : Int → Int → Int} {W H bar : Int} {a b : Nat} (hab : a ≤ b) (h : ∀ t, a ≤ t → t < b → ¬ isM f W H bar t) : mkf f W H bar b = mkf f W H bar a := by
  obtain ⟨n, rfl⟩ : ∃ n, b = a + n := ⟨b - a, by omega⟩
  exact mkf_skip a n h
theorem mkf_le (f : Int → Int → Int) (W H bar : Int) : ∀ t, (mkf f W H bar t).1 ≤ 16
  | 0 => by simp [mkf]
  | t + 1 => by
    by_cases h : isM f W H bar t
    · rw [mkf_yes h]; exact ins_le (mkf_le f W H bar t)
    · rw [mkf_no h]; exact mkf_le f W H bar t
theorem mkf_all (f : Int → Int → Int) (W H bar : Int) : ∀ t m, m < (mkf f W H bar t).1 → (mkf f W H bar t).2 m < t ∧ isM f W H bar ((mkf f W H bar t).2 m)
  | 0, m, h => by simp [mkf] at h
  | t + 1, m, h => by
    by_cases hM : isM f W H bar t
    · rw [mkf_yes hM] at h ⊢
      exact ins_all (P := fun x => x < t + 1 ∧ isM f W H bar x) ⟨by omega, hM⟩ (fun m hm => ⟨by have := (mkf_all f W H bar t m hm).1; omega, (mkf_all f W H bar t m hm).2⟩) m h
    · rw [mkf_no hM] at h ⊢
      have := mkf_all f W H bar t m h
      exact ⟨by omega, this.2⟩
/-- the class's marks hold these -/
def MAok (μ : Mem) (p : Nat) (f : Int → Int → Int) (a : Mks) : Prop := a.1 ≤ 16 ∧ μ (26 + p) 4 = (a.1 : Int) ∧ ∀ m, m < a.1 → μ (30 + p) m = ((a.2 m % 20 : Nat) : Int) ∧ μ (34 + p) m = ((a.2 m / 20 : Nat) : Int) ∧ μ (38 + p) m = fS f (a.2 m)
/-- the nearest of n signs: number and distance -/
def nbr (sg : Nat → Int) (s : Int) : Nat → Int × Int
  | 0 => (-6, 13)
  | k + 1 => if dst (sg k) s < (nbr sg s k).2 then ((k : Int), dst (sg k) s) else nbr sg s k
def nrs (sg : Nat → Int) (s : Int) (n : Nat) : Int := (nbr sg s n).1
theorem nbr_rng (sg : Nat → Int) (s : Int) : ∀ n : Nat, ((nbr sg s n).1 = -6 ∨ (0 ≤ (nbr sg s n).1 ∧ (nbr sg s n).1 < n)) ∧ 0 ≤ (nbr sg s n).2 ∧ (nbr sg s n).2 ≤ 13
  | 0 => by simp [nbr]
  | k + 1 => by
    have h := nbr_rng sg s k
    have hd := dst_rng (sg k) s
    unfold nbr
    split
    · dsimp only; omega
    · omega
theorem nrs_rng (sg : Nat → Int) (s : Int) (n : Nat) : nrs sg s n = -6 ∨ (0 ≤ nrs sg s n ∧ nrs sg s n < n) := (nbr_rng sg s n).1
def ptn (sa : Nat → Int) (na : Nat) (sb : Nat → Int) (nb : Nat) (near : Int) (m : Nat) : Int :=
  if nrs sb (sa m) nb = -6 ∨ ¬ nrs sa (sb (nrs sb (sa m) nb).toNat) na = (m : Int) then -6
  else if dst (sa m) (sb (nrs sb (sa m) nb).toNat) ≤ near then nrs sb (sa m) nb else -6
theorem ptn_rng (sa : Nat → Int) (na : Nat) (sb : Nat → Int) (nb : Nat) (near : Int) (m : Nat) : ptn sa na sb nb near m = -6 ∨ (0 ≤ ptn sa na sb nb near m ∧ ptn sa na sb nb near m < nb) := by
  have := nrs_rng sb (sa m) nb
  unfold ptn
  split
  · exact Or.inl rfl
  · split
    · exact this
    · exact Or.inl rfl
def mct (P : Nat → Int) : Nat → Int
  | 0 => 0
  | m + 1 => if P m = -6 then mct P m else mct P m + 1
theorem mct_rng (P : Nat → Int) : ∀ n : Nat, 0 ≤ mct P n ∧ mct P n ≤ n
  | 0 => by simp [mct]
  | n + 1 => by
    have := mct_rng P n
    unfold mct
    split <;> omega
def vts (P SX SY : Nat → Int) (X Y : Int) : Nat → Int
  | 0 => 0
  | m + 1 => if ¬ P m = -6 ∧ SX m = X ∧ SY m = Y then vts P SX SY X Y m + 1 else vts P SX SY X Y m
theorem vts_rng (P SX SY : Nat → Int) (X Y : Int) : ∀ n : Nat, 0 ≤ vts P SX SY X Y n ∧ vts P SX SY X Y n ≤ n
  | 0 => by simp [vts]
  | n + 1 => by
    have := vts_rng P SX SY X Y n
    unfold vts
    split <;> omega
abbrev Vxy : Type := Int × Int × Int
def prq (nv X Y : Int) (a : Vxy) : Vxy := if 2 ≤ nv ∧ (a.1 < nv ∨ (nv = a.1 ∧ (X < a.2.1 ∨ (X = a.2.1 ∧ Y < a.2.2)))) then (nv, X, Y) else a
def prf (P SX SY : Nat → Int) (n : Nat) (a0 : Vxy) : Nat → Vxy
  | 0 => a0
  | m + 1 => if P m = -6 then prf P SX SY n a0 m else prq (vts P SX SY (SX m) (SY m) n) (SX m) (SY m) (prf P SX SY n a0 m)
theorem prf_rng {P SX SY : Nat → Int} {n : Nat} {a0 : Vxy} (hn : n ≤ 16) (h0 : 0 ≤ a0.1 ∧ a0.1 ≤ 16 ∧ -20 ≤ a0.2.1 ∧ a0.2.1 ≤ 20 ∧ -20 ≤ a0.2.2 ∧ a0.2.2 ≤ 20) (hx : ∀ m, ¬ P m = -6 → -20 ≤ SX m ∧ SX m ≤ 20 ∧ -20 ≤ SY m ∧ SY m ≤ 20) : ∀ m : Nat, 0 ≤ (prf P SX SY n a0 m).1 ∧ (prf P SX SY n a0 m).1 ≤ 16 ∧ -20 ≤ (prf P SX SY n a0 m).2.1 ∧ (prf P SX SY n a0 m).2.1 ≤ 20 ∧ -20 ≤ (prf P SX SY n a0 m).2.2 ∧ (prf P SX SY n a0 m).2.2 ≤ 20
  | 0 => h0
  | m + 1 => by
    have h1 := prf_rng hn h0 hx m
    have h2 := vts_rng P SX SY (SX m) (SY m) n
    rw [prf]
    split
    · exact h1
    · rename_i hP
      have h3 := hx m hP
      unfold prq
      split
      · dsimp only; omega
      · exact h1
end
section
theorem sh_step {μa μb μ : Mem} {c n m : Nat} (hA : ∀ x, μa c x = if m < x ∧ x < n then μ c (x - 1) else μ c x) (hm : 0 < m) (hmn : m < n) (hb : ∀ x, μb c x = if x = m then μa c (m - 1) else μa c x) : ∀ x, μb c x = if m - 1 < x ∧ x < n then μ c (x - 1) else μ c x := by
  intro x
  rw [hb]
  by_cases h : x = m
  · rw [if_pos h, hA, if_neg (by omega), if_pos (by omega), h]
  · rw [if_neg h, hA]
    by_cases h2 : m < x ∧ x < n
    · rw [if_pos h2, if_pos (by omega)]
    · rw [if_neg h2, if_neg (by omega)]
theorem ins_MA {μ μf : Mem} {p t : Nat} {f : Int → Int → Int} {a : Mks} {sp : Nat} (hM : MAok μ p f a) (hsp : plc (fS f) a.2 (fS f t) a.1 = sp) (h16 : sp < 16) (hc : μf (26 + p) 4 = min ((a.1 : Int) + 1) 16)
    (h0 : ∀ x, μf (30 + p) x = if x = sp then ((t % 20 : Nat) : Int) else if sp < x ∧ x < min (a.1 + 1) 16 then μ (30 + p) (x - 1) else μ (30 + p) x)
    (h1 : ∀ x, μf (34 + p) x = if x = sp then ((t / 20 : Nat) : Int) else if sp < x ∧ x < min (a.1 + 1) 16 then μ (34 + p) (x - 1) else μ (34 + p) x)
    (h2 : ∀ x, μf (38 + p) x = if x = sp then fS f t else if sp < x ∧ x < min (a.1 + 1) 16 then μ (38 + p) (x - 1) else μ (38 + p) x) : MAok μf p f (ins (fS f) t a) := by
  have hle := plc_le (fS f) a.2 (fS f t) a.1
  rw [hsp] at hle
  have hi : ins (fS f) t a = (min (a.1 + 1) 16, fun m => if m < sp then a.2 m else if m = sp then t else a.2 (m - 1)) := by
    unfold ins
    rw [hsp, if_pos h16]
  rw [hi]
  refine ⟨Nat.min_le_right _ _, by rw [hc]; omega, fun m hm => ?_⟩
  dsimp only at hm ⊢
  have hmin := Nat.min_le_left (a.1 + 1) 16
  rw [h0, h1, h2]
  by_cases e1 : m = sp
  · rw [if_pos e1, if_pos e1, if_pos e1, if_neg (by omega), if_pos e1]
    exact ⟨rfl, rfl, rfl⟩
  · simp only [if_neg e1]
    by_cases e2 : m < sp
    · have n1 : ¬ (sp < m ∧ m < min (a.1 + 1) 16) := by omega
      simp only [if_pos e2, if_neg n1]
      exact hM.2.2 m (by omega)
    · have n1 : sp < m ∧ m < min (a.1 + 1) 16 := by omega
      simp only [if_neg e2, if_pos n1]
      exact hM.2.2 (m - 1) (by omega)
theorem fS_at {f : Int → Int → Int} {i j : Int} {x y : Nat} (hx : x < 20) (hi : i = (x : Int)) (hj : j = (y : Int)) : fS f (20 * y + x) = f i j := by
  unfold fS
  rw [show (20 * y + x) % 20 = x by omega, show (20 * y + x) / 20 = y by omega, ← hi, ← hj]
theorem isM_at {f : Int → Int → Int} {W H bar i j : Int} {x y : Nat} (hx : x < 20) (hi : i = (x : Int)) (hj : j = (y : Int)) : isM f W H bar (20 * y + x) ↔ i < W ∧ j < H ∧ bar ≤ f i j ∧ pk f i j := by
  unfold isM
  rw [fS_at hx hi hj, show (20 * y + x) % 20 = x by omega, show (20 * y + x) / 20 = y by omega, ← hi, ← hj]
theorem mkf_row {f : Int → Int → Int} {W H bar : Int} {x y : Nat} (hx : x ≤ 20) (hw : W ≤ (x : Int)) : mkf f W H bar (20 * (y + 1)) = mkf f W H bar (20 * y + x) :=
  mkf_skip' (by omega) (fun t h1 h2 h => by have := h.1; omega)
theorem mkf_end {f : Int → Int → Int} {W H bar : Int} {y : Nat} (hy : y ≤ 20) (hh : H ≤ (y : Int)) : mkf f W H bar 400 = mkf f W H bar (20 * y) :=
  mkf_skip' (by omega) (fun t h1 h2 h => by have := h.2.1; omega)
theorem MAok_fr {μ μ' : Mem} {p : Nat} {f : Int → Int → Int} {a : Mks} (h : MAok μ p f a) (h0 : μ' (26 + p) = μ (26 + p)) (h1 : μ' (30 + p) = μ (30 + p)) (h2 : μ' (34 + p) = μ (34 + p)) (h3 : μ' (38 + p) = μ (38 + p)) : MAok μ' p f a := by
  unfold MAok
  rw [h0, h1, h2, h3]
  exact h
theorem nat_cast_lt {m : Int} {n : Nat} (h : ¬ (n : Int) ≤ m) : m < n := by omega
end
section
set_option maxHeartbeats 4000000 in
set_option maxRecDepth 100000 in
theorem c_X8_within (l : Launch) (G : GT) (μ : Mem) (a b c : Int) (ha : InR a) (hb : InR b) (hc : InR c) : MI l yX8_within cX8_within 3 .boolean ({ frames := 0, cells := 0, slots := 0, locals := 0 } : Room) G [.inl a, .inl b, .inl c] μ (rdc μ (b ≤ a ∧ a ≤ c)) := by
  refine MI.of (by decide +kernel) (Nat.le_of_ble_eq_true rfl) ?_
  intro F C Y
  show jX F G 3 0 0 (jE F G (jQi G (rdc μ (b ≤ a ∧ a ≤ c)))) 0 [some (.inl a), some (.inl b), some (.inl c)] [] μ
  refine jx_iload_n C dX8_within_0 rfl ?_
  refine jx_iload_n C dX8_within_1 rfl ?_
  refine jx_icmp_lt C dX8_within_2 (by omega) (by omega) (fun c_2 => ?_) (fun c_2 => ?_)
  · refine jx_iconst C dX8_within_14 ?_
    exact jx_zret C dX8_within_15 (Or.inl rfl) ⟨rfl, Or.inr ⟨rfl, by omega⟩⟩
  · refine jx_iload_n C dX8_within_5 rfl ?_
    refine jx_iload_n C dX8_within_6 rfl ?_
    refine jx_icmp_gt C dX8_within_7 (by omega) (by omega) (fun c_7 => ?_) (fun c_7 => ?_)
    · refine jx_iconst C dX8_within_14 ?_
      exact jx_zret C dX8_within_15 (Or.inl rfl) ⟨rfl, Or.inr ⟨rfl, by omega⟩⟩
    · refine jx_iconst C dX8_within_10 ?_
      refine jx_goto C dX8_within_11 ?_
      exact jx_zret C dX8_within_15 (Or.inr rfl) ⟨rfl, Or.inl ⟨rfl, by omega⟩⟩
set_option maxHeartbeats 4000000 in
set_option maxRecDepth 100000 in
theorem c_X1_has (l : Launch) (G : GT) (μ : Mem) (p : Nat) (hp : p < 4) (i j : Int) (hi : InR i) (hj : InR j) (hR : rng μ) : MI l yX1_has cX1_has 3 .boolean ({ frames := 0, cells := 0, slots := 0, locals := 0 } : Room) G [.inr (ad G (14 + p)), .inl i, .inl j] μ (rdc μ (0 ≤ i ∧ i < μ (14 + p) 2 ∧ 0 ≤ j ∧ j < μ (14 + p) 3)) := by
  refine MI.of (by decide +kernel) (Nat.le_of_ble_eq_true rfl) ?_
  intro F C Y
  show jX F G 3 0 0 (jE F G (jQi G (rdc μ (0 ≤ i ∧ i < μ (14 + p) 2 ∧ 0 ≤ j ∧ j < μ (14 + p) 3)))) 0 [some (.inr (ad G (14 + p))), some (.inl i), some (.inl j)] [] μ
  refine jx_iload_n C dX1_has_0 rfl ?_
  refine jx_if_lt C dX1_has_1 (by omega) (fun c_1 => ?_) (fun c_1 => ?_)
  · refine jx_iconst C dX1_has_28 ?_
    exact jx_zret C dX1_has_29 (Or.inl rfl) ⟨rfl, Or.inr ⟨rfl, by omega⟩⟩
  · refine jx_iload_n C dX1_has_4 rfl ?_
    refine jx_aload_n C dX1_has_5 rfl ?_
    refine jx_get (v := .inl (μ (14 + p) 2)) C 2 ft_X1 (jcl_DO G hp _) rfl (by decide) (by omega) wf_X1_24 dX1_has_6 ?_
    have r_6 := rg_DO_2 hR hp
    refine jx_icmp_ge C dX1_has_9 (by omega) (by omega) (fun c_9 => ?_) (fun c_9 => ?_)
    · refine jx_iconst C dX1_has_28 ?_
      exact jx_zret C dX1_has_29 (Or.inl rfl) ⟨rfl, Or.inr ⟨rfl, by omega⟩⟩
    · refine jx_iload_n C dX1_has_12 rfl ?_
      refine jx_if_lt C dX1_has_13 (by omega) (fun c_13 => ?_) (fun c_13 => ?_)
      · refine jx_iconst C dX1_has_28 ?_
        exact jx_zret C dX1_has_29 (Or.inl rfl) ⟨rfl, Or.inr ⟨rfl, by omega⟩⟩
      · refine jx_iload_n C dX1_has_16 rfl ?_
        refine jx_aload_n C dX1_has_17 rfl ?_
        refine jx_get (v := .inl (μ (14 + p) 3)) C 3 ft_X1 (jcl_DO G hp _) rfl (by decide) (by omega) wf_X1_28 dX1_has_18 ?_
        have r_18 := rg_DO_3 hR hp
        refine jx_icmp_ge C dX1_has_21 (by omega) (by omega) (fun c_21 => ?_) (fun c_21 => ?_)
        · refine jx_iconst C dX1_has_28 ?_
          exact jx_zret C dX1_has_29 (Or.inl rfl) ⟨rfl, Or.inr ⟨rfl, by omega⟩⟩
        · refine jx_iconst C dX1_has_24 ?_
          refine jx_goto C dX1_has_25 ?_
          exact jx_zret C dX1_has_29 (Or.inr rfl) ⟨rfl, Or.inl ⟨rfl, by omega⟩⟩
set_option maxHeartbeats 4000000 in
set_option maxRecDepth 100000 in
theorem c_X1_get (l : Launch) (G : GT) (μ : Mem) (p : Nat) (hp : p < 4) (i j : Int) (hi : InR i) (hj : InR j) (hR : rng μ) : MI l yX1_get cX1_get 3 .int ({ frames := 1, cells := 0, slots := 0, locals := 22 } : Room) G [.inr (ad G (14 + p)), .inl i, .inl j] μ (rdq μ (dgt (μ (14 + p) 2) (μ (14 + p) 3) (μ (18 + p)) i j)) := by
  refine MI.of (by decide +kernel) (Nat.le_of_ble_eq_true rfl) ?_
  intro F C Y
  show jX F G 3 0 0 (jE F G (jQi G (rdq μ (dgt (μ (14 + p) 2) (μ (14 + p) 3) (μ (18 + p)) i j)))) 0 [some (.inr (ad G (14 + p))), some (.inl i), some (.inl j)] [] μ
  have r_a := rg_DO_2 hR hp
  have r_b := rg_DO_3 hR hp
  refine jx_aload_n C dX1_get_0 rfl ?_
  refine jx_iload_n C dX1_get_1 rfl ?_
  refine jx_iload_n C dX1_get_2 rfl ?_
  refine jx_cVi (as := [.inl i, .inl j]) (st := []) C Y (c_X1_has l G μ p (by omega) i j (by omega) (by omega) hR) yb_X1_has yv_X1_has wm_X1_35 (jcl_DO G hp _) rfl (by omega) rfl rfl (Nat.le_of_ble_eq_true rfl) ⟨⟨rfl, rfl, Nat.le_of_ble_eq_true rfl, Nat.le_of_ble_eq_true rfl⟩, Nat.zero_le _, Nat.zero_le _⟩ dX1_get_3 ?_
  rintro _ _ ⟨rfl, ⟨rfl, c_3⟩ | ⟨rfl, c_3⟩⟩
  · refine jx_if_eq C dX1_get_6 (by decide) (fun q => absurd q (by decide)) (fun _ => ?_)
    refine jx_aload_n C dX1_get_9 rfl ?_
    refine jx_get (v := .inr (ad G (18 + p))) C 0 ft_X1 (jcl_DO G hp _) rfl (by decide) (by omega) wf_X1_9 dX1_get_10 ?_
    refine jx_iload_n C dX1_get_13 rfl ?_
    refine jx_bipush C dX1_get_14 (by decide +kernel) ?_
    refine jx_imul C dX1_get_16 ?_
    refine jx_iload_n C dX1_get_17 rfl ?_
    refine jx_iadd C dX1_get_18 ?_
    refine jx_iald C (jcl_va G hp _) (by omega) (by omega) (by omega) (by decide) dX1_get_19 ?_
    have r_19 := rg_va hR hp ((j * 20 + i).toNat)
    refine jx_goto C dX1_get_20 ?_
    exact jx_iret C dX1_get_24 ⟨dgt_in c_3, rfl⟩
  · refine jx_if_eq C dX1_get_6 (by decide) (fun _ => ?_) (fun q => absurd q (by decide))
    refine jx_iconst C dX1_get_23 ?_
    exact jx_iret C dX1_get_24 ⟨dgt_out c_3, rfl⟩
set_option maxHeartbeats 4000000 in
set_option maxRecDepth 100000 in
theorem c_X1_put (l : Launch) (G : GT) (μ : Mem) (p : Nat) (hp : p < 4) (i j v : Int) (hi : InR i) (hj : InR j) (hv : -1 ≤ v ∧ v ≤ 255) (hin : 0 ≤ i ∧ i < μ (14 + p) 2 ∧ 0 ≤ j ∧ j < μ (14 + p) 3) (hR : rng μ) : MV l yX1_put cX1_put 4 ({ frames := 1, cells := 0, slots := 0, locals := 22 } : Room) G [.inr (ad G (14 + p)), .inl i, .inl j, .inl v] μ (fun μ' => rng μ' ∧ μ' = jms (jms μ (18 + p) (j * 20 + i).toNat v) (14 + p) 4 1) := by
  refine MV.of (by decide +kernel) (Nat.le_of_ble_eq_true rfl) ?_
  intro F C Y
  show jX F G 4 0 0 (jE F G (jQv G (fun μ' => rng μ' ∧ μ' = jms (jms μ (18 + p) (j * 20 + i).toNat v) (14 + p) 4 1))) 0 [some (.inr (ad G (14 + p))), some (.inl i), some (.inl j), some (.inl v)] [] μ
  have r_a := rg_DO_2 hR hp
  have r_b := rg_DO_3 hR hp
  refine jx_aload_n C dX1_put_0 rfl ?_
  refine jx_iload_n C dX1_put_1 rfl ?_
  refine jx_iload_n C dX1_put_2 rfl ?_
  refine jx_cVi (as := [.inl i, .inl j]) (st := []) C Y (c_X1_has l G μ p (by omega) i j (by omega) (by omega) hR) yb_X1_has yv_X1_has wm_X1_35 (jcl_DO G hp _) rfl (by omega) rfl rfl (Nat.le_of_ble_eq_true rfl) ⟨⟨rfl, rfl, Nat.le_of_ble_eq_true rfl, Nat.le_of_ble_eq_true rfl⟩, Nat.zero_le _, Nat.zero_le _⟩ dX1_put_3 ?_
  rintro _ _ ⟨rfl, ⟨rfl, c_3⟩ | ⟨rfl, c_3⟩⟩
  · refine jx_if_eq C dX1_put_6 (by decide) (fun q => absurd q (by decide)) (fun _ => ?_)
    refine jx_aload_n C dX1_put_9 rfl ?_
    refine jx_get (v := .inr (ad G (18 + p))) C 0 ft_X1 (jcl_DO G hp _) rfl (by decide) (by omega) wf_X1_9 dX1_put_10 ?_
    refine jx_iload_n C dX1_put_13 rfl ?_
    refine jx_bipush C dX1_put_14 (by decide +kernel) ?_
    refine jx_imul C dX1_put_16 ?_
    refine jx_iload_n C dX1_put_17 rfl ?_
    refine jx_iadd C dX1_put_18 ?_
    refine jx_iload_n C dX1_put_19 rfl ?_
    refine jx_iast C (jcl_va G hp _) (jcl_va G hp _) (by omega) (by omega) (by omega) (by decide) dX1_put_20 ?_
    obtain ⟨μ1, eμ1⟩ : ∃ y, y = jms μ (18 + p) ((j * 20 + i).toNat) v := ⟨_, rfl⟩
    rw [← eμ1]
    have hR1 : rng μ1 := by rw [eμ1]; exact rs_va hR hp ((j * 20 + i).toNat) (by omega) (by omega)
    refine jx_aload_n C dX1_put_21 rfl ?_
    refine jx_iconst C dX1_put_22 ?_
    refine jx_put C 4 ft_X1 (jcl_DO G hp _) ((jcl_DO G hp _).trans rfl) (by decide) (by omega) rfl (Or.inr ⟨rfl, Or.inr rfl⟩) (by simp) wf_X1_31 dX1_put_23 ?_
    obtain ⟨μ2, eμ2⟩ : ∃ y, y = jms μ1 (14 + p) 4 1 := ⟨_, rfl⟩
    rw [← eμ2]
    have hR2 : rng μ2 := by rw [eμ2]; exact rs_DO_4 hR1 hp (by omega) (by omega)
    exact jx_vret C dX1_put_26 ⟨hR2, by rw [eμ2, eμ1]⟩
  · exact absurd hin c_3
set_option maxHeartbeats 4000000 in
set_option maxRecDepth 100000 in
theorem c_X1_changeAbout (l : Launch) (G : GT) (μ : Mem) (p : Nat) (hp : p < 4) (d : Int → Int → Int) (hd : d = dgt (μ (14 + p) 2) (μ (14 + p) 3) (μ (18 + p))) (i j wx wy : Int) (hi : 0 ≤ i ∧ i ≤ 1000) (hj : 0 ≤ j ∧ j ≤ 1000) (hwx : -1 ≤ wx ∧ wx ≤ 1) (hwy : -1 ≤ wy ∧ wy ≤ 1) (hR : rng μ) : MI l yX1_changeAbout cX1_changeAbout 10 .int ({ frames := 2, cells := 0, slots := 0, locals := 44 } : Room) G [.inr (ad G (14 + p)), .inl i, .inl j, .inl wx, .inl wy] μ (rdq μ (chs d i j wx wy 9)) := by
  refine MI.of (by decide +kernel) (Nat.le_of_ble_eq_true rfl) ?_
  intro F C Y
  show jX F G 10 0 0 (jE F G (jQi G (rdq μ (chs d i j wx wy 9)))) 0 [some (.inr (ad G (14 + p))), some (.inl i), some (.inl j), some (.inl wx), some (.inl wy), none, none, none, none, none] [] μ
  have hdr : ∀ x y, -1 ≤ d x y ∧ d x y ≤ 255 := by rw [hd]; exact dgt_rng (fun t => rg_va hR hp t)
  refine jx_iconst C dX1_changeAbout_0 ?_
  refine jx_istore (L' := [some (.inr (ad G (14 + p))), some (.inl i), some (.inl j), some (.inl wx), some (.inl wy), some (.inl 0), none, none, none, none]) C dX1_changeAbout_1 (by decide) rfl ?_
  refine jx_iload_n C dX1_changeAbout_3 rfl ?_
  refine jx_iconst C dX1_changeAbout_4 ?_
  refine jx_isub C dX1_changeAbout_5 ?_
  refine jx_istore (L' := [some (.inr (ad G (14 + p))), some (.inl i), some (.inl j), some (.inl wx), some (.inl wy), some (.inl 0), some (.inl (j - 1)), none, none, none]) C dX1_changeAbout_6 (by decide) rfl ?_
  have LP_8 : ∀ (n : Nat) (r : Nat) (row : Int) (sum : Int), (r ≤ 3) → (row = j - 1 + (r : Int)) → (sum = chs d i j wx wy (3 * r)) → (chs d i j wx wy (3 * r) ≠ -1) → 4 - r < n → jX F G 10 0 0 (jE F G (jQi G (rdq μ (chs d i j wx wy 9)))) 8 [some (.inr (ad G (14 + p))), some (.inl i), some (.inl j), some (.inl wx), some (.inl wy), some (.inl sum), some (.inl row), none, none, none] [] μ := by
    intro n
    induction n with
    | zero =>
      intro r row sum hr hrow hsum hne hms
      exact absurd hms (Nat.not_lt_zero _)
    | succ n ih =>
      intro r row sum hr hrow hsum hne hms
      have ih_8 := ih
      clear ih
      refine jx_iload C dX1_changeAbout_8 rfl ?_
      refine jx_iload_n C dX1_changeAbout_10 rfl ?_
      refine jx_iconst C dX1_changeAbout_11 ?_
      refine jx_iadd C dX1_changeAbout_12 ?_
      refine jx_icmp_gt C dX1_changeAbout_13 (by omega) (by omega) (fun c_13 => ?_) (fun c_13 => ?_)
      · refine jx_iload C dX1_changeAbout_96 rfl ?_
        exact jx_iret C dX1_changeAbout_98 ⟨by rw [hsum, show 3 * r = 9 by omega], rfl⟩
      · refine jx_iload_n C dX1_changeAbout_16 rfl ?_
        refine jx_iconst C dX1_changeAbout_17 ?_
        refine jx_isub C dX1_changeAbout_18 ?_
        refine jx_istore (L' := [some (.inr (ad G (14 + p))), some (.inl i), some (.inl j), some (.inl wx), some (.inl wy), some (.inl sum), some (.inl row), some (.inl (i - 1)), none, none]) C dX1_changeAbout_19 (by decide) rfl ?_
        have LP_21 : ∀ (n : Nat) (cc : Nat) (col : Int) (s2 : Int), (cc ≤ 3) → (col = i - 1 + (cc : Int)) → (s2 = chs d i j wx wy (3 * r + cc)) → (chs d i j wx wy (3 * r + cc) ≠ -1) → 4 - cc < n → jX F G 10 0 0 (jE F G (jQi G (rdq μ (chs d i j wx wy 9)))) 21 [some (.inr (ad G (14 + p))), some (.inl i), some (.inl j), some (.inl wx), some (.inl wy), some (.inl s2), some (.inl row), some (.inl col), none, none] [] μ := by
          intro n
          induction n with
          | zero =>
            intro cc col s2 hcc hcol hs2 hne2 hms
            exact absurd hms (Nat.not_lt_zero _)
          | succ n ih =>
            intro cc col s2 hcc hcol hs2 hne2 hms
            have ih_21 := ih
            clear ih
            refine jx_iload C dX1_changeAbout_21 rfl ?_
            refine jx_iload_n C dX1_changeAbout_23 rfl ?_
            refine jx_iconst C dX1_changeAbout_24 ?_
            refine jx_iadd C dX1_changeAbout_25 ?_
            refine jx_icmp_gt C dX1_changeAbout_26 (by omega) (by omega) (fun c_26 => ?_) (fun c_26 => ?_)
            · refine jx_iinc (L' := [some (.inr (ad G (14 + p))), some (.inl i), some (.inl j), some (.inl wx), some (.inl wy), some (.inl s2), some (.inl (row + 1)), some (.inl col), none, none]) C dX1_changeAbout_90 rfl (by decide) rfl ?_
              refine jx_goto C dX1_changeAbout_93 ?_
              refine jx_fewer (L' := [some (.inr (ad G (14 + p))), some (.inl i), some (.inl j), some (.inl wx), some (.inl wy), some (.inl s2), some (.inl (row + 1)), none, none, none]) (fun i v h => ?_) ?_
              · exact jfew_ok (by simp [jfew]) h
              exact ih_8 (r + 1) (row + 1) s2 (by omega) (by omega) (by rw [hs2, show 3 * (r + 1) = 3 * r + cc by omega]) (by rw [show 3 * (r + 1) = 3 * r + cc by omega]; exact hne2) (by omega)
            · refine jx_aload_n C dX1_changeAbout_29 rfl ?_
              refine jx_iload C dX1_changeAbout_30 rfl ?_
              refine jx_iload C dX1_changeAbout_32 rfl ?_
              refine jx_cVi (as := [.inl col, .inl row]) (st := []) C Y (c_X1_get l G μ p (by omega) col row (by omega) (by omega) hR) yb_X1_get yv_X1_get wm_X1_54 (jcl_DO G hp _) rfl (by omega) rfl rfl (Nat.le_of_ble_eq_true rfl) ⟨⟨rfl, rfl, Nat.le_of_ble_eq_true rfl, Nat.le_of_ble_eq_true rfl⟩, Nat.zero_le _, Nat.zero_le _⟩ dX1_changeAbout_34 ?_
              rintro _ _ ⟨rfl, rfl⟩
              have r_34 := dgt_rng (W := μ (14 + p) 2) (H := μ (14 + p) 3) (v := μ (18 + p)) (fun t => rg_va hR (p := p) (by omega) t) col row
              rw [← hd] at r_34
              refine jx_top (b := d col row) (by rw [hd]) ?_
              refine jx_istore (L' := [some (.inr (ad G (14 + p))), some (.inl i), some (.inl j), some (.inl wx), some (.inl wy), some (.inl s2), some (.inl row), some (.inl col), some (.inl (d col row)), none]) C dX1_changeAbout_37 (by decide) rfl ?_
              refine jx_aload_n C dX1_changeAbout_39 rfl ?_
              refine jx_iload C dX1_changeAbout_40 rfl ?_
              refine jx_iload_n C dX1_changeAbout_42 rfl ?_
              refine jx_iadd C dX1_changeAbout_43 ?_
              refine jx_iload C dX1_changeAbout_44 rfl ?_
              refine jx_iload C dX1_changeAbout_46 rfl ?_
              refine jx_iadd C dX1_changeAbout_48 ?_
              refine jx_cVi (as := [.inl (col + wx), .inl (row + wy)]) (st := []) C Y (c_X1_get l G μ p (by omega) (col + wx) (row + wy) (by omega) (by omega) hR) yb_X1_get yv_X1_get wm_X1_54 (jcl_DO G hp _) rfl (by omega) rfl rfl (Nat.le_of_ble_eq_true rfl) ⟨⟨rfl, rfl, Nat.le_of_ble_eq_true rfl, Nat.le_of_ble_eq_true rfl⟩, Nat.zero_le _, Nat.zero_le _⟩ dX1_changeAbout_49 ?_
              rintro _ _ ⟨rfl, rfl⟩
              have r_49 := dgt_rng (W := μ (14 + p) 2) (H := μ (14 + p) 3) (v := μ (18 + p)) (fun t => rg_va hR (p := p) (by omega) t) (col + wx) (row + wy)
              rw [← hd] at r_49
              refine jx_top (b := d (col + wx) (row + wy)) (by rw [hd]) ?_
              refine jx_istore (L' := [some (.inr (ad G (14 + p))), some (.inl i), some (.inl j), some (.inl wx), some (.inl wy), some (.inl s2), some (.inl row), some (.inl col), some (.inl (d col row)), some (.inl (d (col + wx) (row + wy)))]) C dX1_changeAbout_52 (by decide) rfl ?_
              refine jx_iload C dX1_changeAbout_54 rfl ?_
              refine jx_iconst C dX1_changeAbout_56 ?_
              refine jx_icmp_eq C dX1_changeAbout_57 (by omega) (by decide) (fun c_57 => ?_) (fun c_57 => ?_)
              · refine jx_iconst C dX1_changeAbout_66 ?_
                exact jx_iret C dX1_changeAbout_67 ⟨chs_lostat hcol hrow (by omega) (by omega) (by first | exact Or.inl c_57 | exact Or.inr c_63), rfl⟩
              · refine jx_iload C dX1_changeAbout_60 rfl ?_
                refine jx_iconst C dX1_changeAbout_62 ?_
                refine jx_icmp_ne C dX1_changeAbout_63 (by omega) (by decide) (fun c_63 => ?_) (fun c_63 => ?_)
                · refine jx_iload C dX1_changeAbout_68 rfl ?_
                  refine jx_iload C dX1_changeAbout_70 rfl ?_
                  refine jx_iload C dX1_changeAbout_72 rfl ?_
                  refine jx_isub C dX1_changeAbout_74 ?_
                  refine jx_iload C dX1_changeAbout_75 rfl ?_
                  refine jx_iload C dX1_changeAbout_77 rfl ?_
                  refine jx_isub C dX1_changeAbout_79 ?_
                  refine jx_imul C dX1_changeAbout_80 ?_
                  refine jx_iadd C dX1_changeAbout_81 ?_
                  refine jx_istore (L' := [some (.inr (ad G (14 + p))), some (.inl i), some (.inl j), some (.inl wx), some (.inl wy), some (.inl (s2 + ((d col row - (d (col + wx) (row + wy))) * (d col row - (d (col + wx) (row + wy)))))), some (.inl row), some (.inl col), some (.inl (d col row)), some (.inl (d (col + wx) (row + wy)))]) C dX1_changeAbout_82 (by decide) rfl ?_
                  refine jx_iinc (L' := [some (.inr (ad G (14 + p))), some (.inl i), some (.inl j), some (.inl wx), some (.inl wy), some (.inl (s2 + ((d col row - (d (col + wx) (row + wy))) * (d col row - (d (col + wx) (row + wy)))))), some (.inl row), some (.inl (col + 1)), some (.inl (d col row)), some (.inl (d (col + wx) (row + wy)))]) C dX1_changeAbout_84 rfl (by decide) rfl ?_
                  refine jx_goto C dX1_changeAbout_87 ?_
                  have hnx := chs_next hdr hne2 hcol hrow (by omega) c_57 c_63
                  refine jx_fewer (L' := [some (.inr (ad G (14 + p))), some (.inl i), some (.inl j), some (.inl wx), some (.inl wy), some (.inl (s2 + ((d col row - (d (col + wx) (row + wy))) * (d col row - (d (col + wx) (row + wy)))))), some (.inl row), some (.inl (col + 1)), none, none]) (fun i v h => ?_) ?_
                  · exact jfew_ok (by simp [jfew]) h
                  exact ih_21 (cc + 1) (col + 1) (s2 + ((d col row - (d (col + wx) (row + wy))) * (d col row - (d (col + wx) (row + wy))))) (by omega) (by omega) (by rw [hnx.1, hs2]) hnx.2 (by omega)
                · refine jx_iconst C dX1_changeAbout_66 ?_
                  exact jx_iret C dX1_changeAbout_67 ⟨chs_lostat hcol hrow (by omega) (by omega) (by first | exact Or.inl c_57 | exact Or.inr c_63), rfl⟩
        exact LP_21 _ 0 (i - 1) sum (by omega) (by omega) hsum hne (Nat.lt_succ_self _)
  exact LP_8 _ 0 (j - 1) 0 (by omega) (by omega) rfl (chs_0 d i j wx wy) (Nat.lt_succ_self _)
set_option maxHeartbeats 4000000 in
set_option maxRecDepth 100000 in
theorem c_X1_scoreOf (l : Launch) (G : GT) (μ : Mem) (p : Nat) (hp : p < 4) (d : Int → Int → Int) (hd : d = dgt (μ (14 + p) 2) (μ (14 + p) 3) (μ (18 + p))) (i j : Int) (hi : InR i) (hj : InR j) (hR : rng μ) : MI l yX1_scoreOf cX1_scoreOf 6 .int ({ frames := 3, cells := 0, slots := 0, locals := 73 } : Room) G [.inr (ad G (14 + p)), .inl i, .inl j] μ (rdq μ (sco (μ (14 + p) 2) (μ (14 + p) 3) d i j)) := by
  refine MI.of (by decide +kernel) (Nat.le_of_ble_eq_true rfl) ?_
  intro F C Y
  show jX F G 6 0 0 (jE F G (jQi G (rdq μ (sco (μ (14 + p) 2) (μ (14 + p) 3) d i j)))) 0 [some (.inr (ad G (14 + p))), some (.inl i), some (.inl j), none, none, none] [] μ
  have hdr : ∀ x y, -1 ≤ d x y ∧ d x y ≤ 255 := by rw [hd]; exact dgt_rng (fun t => rg_va hR hp t)
  have v_0 := chv_rng hdr i j 0
  have v_1 := chv_rng hdr i j 1
  have v_2 := chv_rng hdr i j 2
  have v_3 := chv_rng hdr i j 3
  refine jx_iload_n C dX1_scoreOf_0 rfl ?_
  refine jx_iconst C dX1_scoreOf_1 ?_
  refine jx_aload_n C dX1_scoreOf_2 rfl ?_
  refine jx_get (v := .inl (μ (14 + p) 2)) C 2 ft_X1 (jcl_DO G hp _) rfl (by decide) (by omega) wf_X1_24 dX1_scoreOf_3 ?_
  have r_3 := rg_DO_2 hR hp
  refine jx_iconst C dX1_scoreOf_6 ?_
  refine jx_isub C dX1_scoreOf_7 ?_
  refine jx_iconst C dX1_scoreOf_8 ?_
  refine jx_isub C dX1_scoreOf_9 ?_
  refine jx_cWi (as := [.inl i, .inl 3, .inl (μ (14 + p) 2 - 1 - 3)]) (st := []) C Y (c_X8_within l G μ i 3 (μ (14 + p) 2 - 1 - 3) (by omega) (by omega) (by omega)) yb_X8_within ws_X8_within rfl rfl (Nat.le_of_ble_eq_true rfl) ⟨⟨rfl, rfl, Nat.le_of_ble_eq_true rfl, Nat.le_of_ble_eq_true rfl⟩, Nat.zero_le _, Nat.zero_le _⟩ dX1_scoreOf_10 ?_
  rintro _ _ ⟨rfl, ⟨rfl, c_10⟩ | ⟨rfl, c_10⟩⟩
  · refine jx_if_eq C dX1_scoreOf_13 (by decide) (fun q => absurd q (by decide)) (fun _ => ?_)
    refine jx_iload_n C dX1_scoreOf_16 rfl ?_
    refine jx_iconst C dX1_scoreOf_17 ?_
    refine jx_aload_n C dX1_scoreOf_18 rfl ?_
    refine jx_get (v := .inl (μ (14 + p) 3)) C 3 ft_X1 (jcl_DO G hp _) rfl (by decide) (by omega) wf_X1_28 dX1_scoreOf_19 ?_
    have r_19 := rg_DO_3 hR hp
    refine jx_iconst C dX1_scoreOf_22 ?_
    refine jx_isub C dX1_scoreOf_23 ?_
    refine jx_iconst C dX1_scoreOf_24 ?_
    refine jx_isub C dX1_scoreOf_25 ?_
    refine jx_cWi (as := [.inl j, .inl 3, .inl (μ (14 + p) 3 - 1 - 3)]) (st := []) C Y (c_X8_within l G μ j 3 (μ (14 + p) 3 - 1 - 3) (by omega) (by omega) (by omega)) yb_X8_within ws_X8_within rfl rfl (Nat.le_of_ble_eq_true rfl) ⟨⟨rfl, rfl, Nat.le_of_ble_eq_true rfl, Nat.le_of_ble_eq_true rfl⟩, Nat.zero_le _, Nat.zero_le _⟩ dX1_scoreOf_26 ?_
    rintro _ _ ⟨rfl, ⟨rfl, c_26⟩ | ⟨rfl, c_26⟩⟩
    · refine jx_if_ne C dX1_scoreOf_29 (by decide) (fun _ => ?_) (fun q => absurd q (by decide))
      refine jx_ldc C dX1_scoreOf_34 wk_X1_43 (z := 585225) (by decide +kernel) ?_
      refine jx_istore_n (L' := [some (.inr (ad G (14 + p))), some (.inl i), some (.inl j), some (.inl 585225), none, none]) C dX1_scoreOf_36 (by decide) rfl ?_
      refine jx_iconst C dX1_scoreOf_37 ?_
      refine jx_istore (L' := [some (.inr (ad G (14 + p))), some (.inl i), some (.inl j), some (.inl 585225), some (.inl 0), none]) C dX1_scoreOf_38 (by decide) rfl ?_
      refine jx_iload C dX1_scoreOf_40 rfl ?_
      refine jx_gsx C wf_X1_44 dX1_scoreOf_42 ?_
      refine jx_tlen C true dX1_scoreOf_45 ?_
      refine jx_icmp_ge C dX1_scoreOf_46 (by decide) (by decide) (fun q => absurd q (by decide)) (fun _ => ?_)
      refine jx_iload C dX1_scoreOf_49 rfl ?_
      refine jx_gsy C wf_X1_47 dX1_scoreOf_51 ?_
      refine jx_tlen C false dX1_scoreOf_54 ?_
      refine jx_icmp_ge C dX1_scoreOf_55 (by decide) (by decide) (fun q => absurd q (by decide)) (fun _ => ?_)
      refine jx_aload_n C dX1_scoreOf_58 rfl ?_
      refine jx_iload_n C dX1_scoreOf_59 rfl ?_
      refine jx_iload_n C dX1_scoreOf_60 rfl ?_
      refine jx_gsx C wf_X1_44 dX1_scoreOf_61 ?_
      refine jx_iload C dX1_scoreOf_64 rfl ?_
      refine jx_tx C (by omega) (by omega) dX1_scoreOf_66 ?_
      refine jx_top (b := wayx 0) rfl ?_
      refine jx_gsy C wf_X1_47 dX1_scoreOf_67 ?_
      refine jx_iload C dX1_scoreOf_70 rfl ?_
      refine jx_ty C (by omega) (by omega) dX1_scoreOf_72 ?_
      refine jx_top (b := wayy 0) rfl ?_
      refine jx_cVi (as := [.inl i, .inl j, .inl (wayx 0), .inl (wayy 0)]) (st := []) C Y (c_X1_changeAbout l G μ p (by omega) d hd i j (wayx 0) (wayy 0) (by omega) (by omega) ⟨by decide, by decide⟩ ⟨by decide, by decide⟩ hR) yb_X1_changeAbout yv_X1_changeAbout wm_X1_50 (jcl_DO G hp _) rfl (by omega) rfl rfl (Nat.le_of_ble_eq_true rfl) ⟨⟨rfl, rfl, Nat.le_of_ble_eq_true rfl, Nat.le_of_ble_eq_true rfl⟩, Nat.zero_le _, Nat.zero_le _⟩ dX1_scoreOf_73 ?_
      rintro _ _ ⟨rfl, rfl⟩
      refine jx_top (b := chv d i j 0) rfl ?_
      refine jx_istore (L' := [some (.inr (ad G (14 + p))), some (.inl i), some (.inl j), some (.inl 585225), some (.inl 0), some (.inl (chv d i j 0))]) C dX1_scoreOf_76 (by decide) rfl ?_
      refine jx_iload C dX1_scoreOf_78 rfl ?_
      refine jx_iconst C dX1_scoreOf_80 ?_
      refine jx_icmp_ne C dX1_scoreOf_81 (by omega) (by decide) (fun c_81 => ?_) (fun c_81 => ?_)
      · refine jx_iload_n C dX1_scoreOf_86 rfl ?_
        refine jx_iload C dX1_scoreOf_87 rfl ?_
        refine jx_min C Y (by decide) (by omega) wm_X1_18 ws_J9_min_7cf53 wi_Math wc_J9_min_7cf53 (Nat.le_of_ble_eq_true rfl) ⟨by decide, by decide, by decide, by decide⟩ dX1_scoreOf_89 ?_
        refine jx_istore_n (L' := [some (.inr (ad G (14 + p))), some (.inl i), some (.inl j), some (.inl (min 585225 (chv d i j 0))), some (.inl 0), some (.inl (chv d i j 0))]) C dX1_scoreOf_92 (by decide) rfl ?_
        refine jx_iinc (L' := [some (.inr (ad G (14 + p))), some (.inl i), some (.inl j), some (.inl (min 585225 (chv d i j 0))), some (.inl 1), some (.inl (chv d i j 0))]) C dX1_scoreOf_93 rfl (by decide) rfl ?_
        refine jx_goto C dX1_scoreOf_96 ?_
        refine jx_iload C dX1_scoreOf_40 rfl ?_
        refine jx_gsx C wf_X1_44 dX1_scoreOf_42 ?_
        refine jx_tlen C true dX1_scoreOf_45 ?_
        refine jx_icmp_ge C dX1_scoreOf_46 (by decide) (by decide) (fun q => absurd q (by decide)) (fun _ => ?_)
        refine jx_iload C dX1_scoreOf_49 rfl ?_
        refine jx_gsy C wf_X1_47 dX1_scoreOf_51 ?_
        refine jx_tlen C false dX1_scoreOf_54 ?_
        refine jx_icmp_ge C dX1_scoreOf_55 (by decide) (by decide) (fun q => absurd q (by decide)) (fun _ => ?_)
        refine jx_aload_n C dX1_scoreOf_58 rfl ?_
        refine jx_iload_n C dX1_scoreOf_59 rfl ?_
        refine jx_iload_n C dX1_scoreOf_60 rfl ?_
        refine jx_gsx C wf_X1_44 dX1_scoreOf_61 ?_
        refine jx_iload C dX1_scoreOf_64 rfl ?_
        refine jx_tx C (by omega) (by omega) dX1_scoreOf_66 ?_
        refine jx_top (b := wayx 1) rfl ?_
        refine jx_gsy C wf_X1_47 dX1_scoreOf_67 ?_
        refine jx_iload C dX1_scoreOf_70 rfl ?_
        refine jx_ty C (by omega) (by omega) dX1_scoreOf_72 ?_
        refine jx_top (b := wayy 1) rfl ?_
        refine jx_cVi (as := [.inl i, .inl j, .inl (wayx 1), .inl (wayy 1)]) (st := []) C Y (c_X1_changeAbout l G μ p (by omega) d hd i j (wayx 1) (wayy 1) (by omega) (by omega) ⟨by decide, by decide⟩ ⟨by decide, by decide⟩ hR) yb_X1_changeAbout yv_X1_changeAbout wm_X1_50 (jcl_DO G hp _) rfl (by omega) rfl rfl (Nat.le_of_ble_eq_true rfl) ⟨⟨rfl, rfl, Nat.le_of_ble_eq_true rfl, Nat.le_of_ble_eq_true rfl⟩, Nat.zero_le _, Nat.zero_le _⟩ dX1_scoreOf_73 ?_
        rintro _ _ ⟨rfl, rfl⟩
        refine jx_top (b := chv d i j 1) rfl ?_
        refine jx_istore (L' := [some (.inr (ad G (14 + p))), some (.inl i), some (.inl j), some (.inl (min 585225 (chv d i j 0))), some (.inl 1), some (.inl (chv d i j 1))]) C dX1_scoreOf_76 (by decide) rfl ?_
        refine jx_iload C dX1_scoreOf_78 rfl ?_
        refine jx_iconst C dX1_scoreOf_80 ?_
        refine jx_icmp_ne C dX1_scoreOf_81 (by omega) (by decide) (fun c_81 => ?_) (fun c_81 => ?_)
        · refine jx_iload_n C dX1_scoreOf_86 rfl ?_
          refine jx_iload C dX1_scoreOf_87 rfl ?_
          refine jx_min C Y (by omega) (by omega) wm_X1_18 ws_J9_min_7cf53 wi_Math wc_J9_min_7cf53 (Nat.le_of_ble_eq_true rfl) ⟨by decide, by decide, by decide, by decide⟩ dX1_scoreOf_89 ?_
          refine jx_istore_n (L' := [some (.inr (ad G (14 + p))), some (.inl i), some (.inl j), some (.inl (min (min 585225 (chv d i j 0)) (chv d i j 1))), some (.inl 1), some (.inl (chv d i j 1))]) C dX1_scoreOf_92 (by decide) rfl ?_
          refine jx_iinc (L' := [some (.inr (ad G (14 + p))), some (.inl i), some (.inl j), some (.inl (min (min 585225 (chv d i j 0)) (chv d i j 1))), some (.inl 2), some (.inl (chv d i j 1))]) C dX1_scoreOf_93 rfl (by decide) rfl ?_
          refine jx_goto C dX1_scoreOf_96 ?_
          refine jx_iload C dX1_scoreOf_40 rfl ?_
          refine jx_gsx C wf_X1_44 dX1_scoreOf_42 ?_
          refine jx_tlen C true dX1_scoreOf_45 ?_
          refine jx_icmp_ge C dX1_scoreOf_46 (by decide) (by decide) (fun q => absurd q (by decide)) (fun _ => ?_)
          refine jx_iload C dX1_scoreOf_49 rfl ?_
          refine jx_gsy C wf_X1_47 dX1_scoreOf_51 ?_
          refine jx_tlen C false dX1_scoreOf_54 ?_
          refine jx_icmp_ge C dX1_scoreOf_55 (by decide) (by decide) (fun q => absurd q (by decide)) (fun _ => ?_)
          refine jx_aload_n C dX1_scoreOf_58 rfl ?_
          refine jx_iload_n C dX1_scoreOf_59 rfl ?_
          refine jx_iload_n C dX1_scoreOf_60 rfl ?_
          refine jx_gsx C wf_X1_44 dX1_scoreOf_61 ?_
          refine jx_iload C dX1_scoreOf_64 rfl ?_
          refine jx_tx C (by omega) (by omega) dX1_scoreOf_66 ?_
          refine jx_top (b := wayx 2) rfl ?_
          refine jx_gsy C wf_X1_47 dX1_scoreOf_67 ?_
          refine jx_iload C dX1_scoreOf_70 rfl ?_
          refine jx_ty C (by omega) (by omega) dX1_scoreOf_72 ?_
          refine jx_top (b := wayy 2) rfl ?_
          refine jx_cVi (as := [.inl i, .inl j, .inl (wayx 2), .inl (wayy 2)]) (st := []) C Y (c_X1_changeAbout l G μ p (by omega) d hd i j (wayx 2) (wayy 2) (by omega) (by omega) ⟨by decide, by decide⟩ ⟨by decide, by decide⟩ hR) yb_X1_changeAbout yv_X1_changeAbout wm_X1_50 (jcl_DO G hp _) rfl (by omega) rfl rfl (Nat.le_of_ble_eq_true rfl) ⟨⟨rfl, rfl, Nat.le_of_ble_eq_true rfl, Nat.le_of_ble_eq_true rfl⟩, Nat.zero_le _, Nat.zero_le _⟩ dX1_scoreOf_73 ?_
          rintro _ _ ⟨rfl, rfl⟩
          refine jx_top (b := chv d i j 2) rfl ?_
          refine jx_istore (L' := [some (.inr (ad G (14 + p))), some (.inl i), some (.inl j), some (.inl (min (min 585225 (chv d i j 0)) (chv d i j 1))), some (.inl 2), some (.inl (chv d i j 2))]) C dX1_scoreOf_76 (by decide) rfl ?_
          refine jx_iload C dX1_scoreOf_78 rfl ?_
          refine jx_iconst C dX1_scoreOf_80 ?_
          refine jx_icmp_ne C dX1_scoreOf_81 (by omega) (by decide) (fun c_81 => ?_) (fun c_81 => ?_)
          · refine jx_iload_n C dX1_scoreOf_86 rfl ?_
            refine jx_iload C dX1_scoreOf_87 rfl ?_
            refine jx_min C Y (by omega) (by omega) wm_X1_18 ws_J9_min_7cf53 wi_Math wc_J9_min_7cf53 (Nat.le_of_ble_eq_true rfl) ⟨by decide, by decide, by decide, by decide⟩ dX1_scoreOf_89 ?_
            refine jx_istore_n (L' := [some (.inr (ad G (14 + p))), some (.inl i), some (.inl j), some (.inl (min (min (min 585225 (chv d i j 0)) (chv d i j 1)) (chv d i j 2))), some (.inl 2), some (.inl (chv d i j 2))]) C dX1_scoreOf_92 (by decide) rfl ?_
            refine jx_iinc (L' := [some (.inr (ad G (14 + p))), some (.inl i), some (.inl j), some (.inl (min (min (min 585225 (chv d i j 0)) (chv d i j 1)) (chv d i j 2))), some (.inl 3), some (.inl (chv d i j 2))]) C dX1_scoreOf_93 rfl (by decide) rfl ?_
            refine jx_goto C dX1_scoreOf_96 ?_
            refine jx_iload C dX1_scoreOf_40 rfl ?_
            refine jx_gsx C wf_X1_44 dX1_scoreOf_42 ?_
            refine jx_tlen C true dX1_scoreOf_45 ?_
            refine jx_icmp_ge C dX1_scoreOf_46 (by decide) (by decide) (fun q => absurd q (by decide)) (fun _ => ?_)
            refine jx_iload C dX1_scoreOf_49 rfl ?_
            refine jx_gsy C wf_X1_47 dX1_scoreOf_51 ?_
            refine jx_tlen C false dX1_scoreOf_54 ?_
            refine jx_icmp_ge C dX1_scoreOf_55 (by decide) (by decide) (fun q => absurd q (by decide)) (fun _ => ?_)
            refine jx_aload_n C dX1_scoreOf_58 rfl ?_
            refine jx_iload_n C dX1_scoreOf_59 rfl ?_
            refine jx_iload_n C dX1_scoreOf_60 rfl ?_
            refine jx_gsx C wf_X1_44 dX1_scoreOf_61 ?_
            refine jx_iload C dX1_scoreOf_64 rfl ?_
            refine jx_tx C (by omega) (by omega) dX1_scoreOf_66 ?_
            refine jx_top (b := wayx 3) rfl ?_
            refine jx_gsy C wf_X1_47 dX1_scoreOf_67 ?_
            refine jx_iload C dX1_scoreOf_70 rfl ?_
            refine jx_ty C (by omega) (by omega) dX1_scoreOf_72 ?_
            refine jx_top (b := wayy 3) rfl ?_
            refine jx_cVi (as := [.inl i, .inl j, .inl (wayx 3), .inl (wayy 3)]) (st := []) C Y (c_X1_changeAbout l G μ p (by omega) d hd i j (wayx 3) (wayy 3) (by omega) (by omega) ⟨by decide, by decide⟩ ⟨by decide, by decide⟩ hR) yb_X1_changeAbout yv_X1_changeAbout wm_X1_50 (jcl_DO G hp _) rfl (by omega) rfl rfl (Nat.le_of_ble_eq_true rfl) ⟨⟨rfl, rfl, Nat.le_of_ble_eq_true rfl, Nat.le_of_ble_eq_true rfl⟩, Nat.zero_le _, Nat.zero_le _⟩ dX1_scoreOf_73 ?_
            rintro _ _ ⟨rfl, rfl⟩
            refine jx_top (b := chv d i j 3) rfl ?_
            refine jx_istore (L' := [some (.inr (ad G (14 + p))), some (.inl i), some (.inl j), some (.inl (min (min (min 585225 (chv d i j 0)) (chv d i j 1)) (chv d i j 2))), some (.inl 3), some (.inl (chv d i j 3))]) C dX1_scoreOf_76 (by decide) rfl ?_
            refine jx_iload C dX1_scoreOf_78 rfl ?_
            refine jx_iconst C dX1_scoreOf_80 ?_
            refine jx_icmp_ne C dX1_scoreOf_81 (by omega) (by decide) (fun c_81 => ?_) (fun c_81 => ?_)
            · refine jx_iload_n C dX1_scoreOf_86 rfl ?_
              refine jx_iload C dX1_scoreOf_87 rfl ?_
              refine jx_min C Y (by omega) (by omega) wm_X1_18 ws_J9_min_7cf53 wi_Math wc_J9_min_7cf53 (Nat.le_of_ble_eq_true rfl) ⟨by decide, by decide, by decide, by decide⟩ dX1_scoreOf_89 ?_
              refine jx_istore_n (L' := [some (.inr (ad G (14 + p))), some (.inl i), some (.inl j), some (.inl (min (min (min (min 585225 (chv d i j 0)) (chv d i j 1)) (chv d i j 2)) (chv d i j 3))), some (.inl 3), some (.inl (chv d i j 3))]) C dX1_scoreOf_92 (by decide) rfl ?_
              refine jx_iinc (L' := [some (.inr (ad G (14 + p))), some (.inl i), some (.inl j), some (.inl (min (min (min (min 585225 (chv d i j 0)) (chv d i j 1)) (chv d i j 2)) (chv d i j 3))), some (.inl 4), some (.inl (chv d i j 3))]) C dX1_scoreOf_93 rfl (by decide) rfl ?_
              refine jx_goto C dX1_scoreOf_96 ?_
              refine jx_iload C dX1_scoreOf_40 rfl ?_
              refine jx_gsx C wf_X1_44 dX1_scoreOf_42 ?_
              refine jx_tlen C true dX1_scoreOf_45 ?_
              refine jx_icmp_ge C dX1_scoreOf_46 (by decide) (by decide) (fun _ => ?_) (fun q => absurd q (by decide))
              refine jx_iload_n C dX1_scoreOf_99 rfl ?_
              exact jx_iret C dX1_scoreOf_100 ⟨by rw [sco, if_pos (by omega), scv, if_neg (by omega)]; omega, rfl⟩
            · refine jx_iconst C dX1_scoreOf_84 ?_
              exact jx_iret C dX1_scoreOf_85 ⟨by rw [sco, if_pos (by omega), scv, if_pos (by omega)], rfl⟩
          · refine jx_iconst C dX1_scoreOf_84 ?_
            exact jx_iret C dX1_scoreOf_85 ⟨by rw [sco, if_pos (by omega), scv, if_pos (by omega)], rfl⟩
        · refine jx_iconst C dX1_scoreOf_84 ?_
          exact jx_iret C dX1_scoreOf_85 ⟨by rw [sco, if_pos (by omega), scv, if_pos (by omega)], rfl⟩
      · refine jx_iconst C dX1_scoreOf_84 ?_
        exact jx_iret C dX1_scoreOf_85 ⟨by rw [sco, if_pos (by omega), scv, if_pos (by omega)], rfl⟩
    · refine jx_if_ne C dX1_scoreOf_29 (by decide) (fun q => absurd q (by decide)) (fun _ => ?_)
      refine jx_iconst C dX1_scoreOf_32 ?_
      exact jx_iret C dX1_scoreOf_33 ⟨by rw [sco, if_neg (by omega)], rfl⟩
  · refine jx_if_eq C dX1_scoreOf_13 (by decide) (fun _ => ?_) (fun q => absurd q (by decide))
    refine jx_iconst C dX1_scoreOf_32 ?_
    exact jx_iret C dX1_scoreOf_33 ⟨by rw [sco, if_neg (by omega)], rfl⟩
set_option maxHeartbeats 4000000 in
set_option maxRecDepth 100000 in
theorem c_X1_keptScore (l : Launch) (G : GT) (μ : Mem) (p : Nat) (hp : p < 4) (i j : Int) (hi : InR i) (hj : InR j) (hR : rng μ) : MI l yX1_keptScore cX1_keptScore 3 .int ({ frames := 1, cells := 0, slots := 0, locals := 22 } : Room) G [.inr (ad G (14 + p)), .inl i, .inl j] μ (rdq μ (kgt (μ (14 + p) 2) (μ (14 + p) 3) (μ (22 + p)) i j)) := by
  refine MI.of (by decide +kernel) (Nat.le_of_ble_eq_true rfl) ?_
  intro F C Y
  show jX F G 3 0 0 (jE F G (jQi G (rdq μ (kgt (μ (14 + p) 2) (μ (14 + p) 3) (μ (22 + p)) i j)))) 0 [some (.inr (ad G (14 + p))), some (.inl i), some (.inl j)] [] μ
  have r_a := rg_DO_2 hR hp
  have r_b := rg_DO_3 hR hp
  refine jx_aload_n C dX1_keptScore_0 rfl ?_
  refine jx_iload_n C dX1_keptScore_1 rfl ?_
  refine jx_iload_n C dX1_keptScore_2 rfl ?_
  refine jx_cVi (as := [.inl i, .inl j]) (st := []) C Y (c_X1_has l G μ p (by omega) i j (by omega) (by omega) hR) yb_X1_has yv_X1_has wm_X1_35 (jcl_DO G hp _) rfl (by omega) rfl rfl (Nat.le_of_ble_eq_true rfl) ⟨⟨rfl, rfl, Nat.le_of_ble_eq_true rfl, Nat.le_of_ble_eq_true rfl⟩, Nat.zero_le _, Nat.zero_le _⟩ dX1_keptScore_3 ?_
  rintro _ _ ⟨rfl, ⟨rfl, c_3⟩ | ⟨rfl, c_3⟩⟩
  · refine jx_if_eq C dX1_keptScore_6 (by decide) (fun q => absurd q (by decide)) (fun _ => ?_)
    refine jx_aload_n C dX1_keptScore_9 rfl ?_
    refine jx_get (v := .inr (ad G (22 + p))) C 1 ft_X1 (jcl_DO G hp _) rfl (by decide) (by omega) wf_X1_15 dX1_keptScore_10 ?_
    refine jx_iload_n C dX1_keptScore_13 rfl ?_
    refine jx_bipush C dX1_keptScore_14 (by decide +kernel) ?_
    refine jx_imul C dX1_keptScore_16 ?_
    refine jx_iload_n C dX1_keptScore_17 rfl ?_
    refine jx_iadd C dX1_keptScore_18 ?_
    refine jx_iald C (jcl_sc G hp _) (by omega) (by omega) (by omega) (by decide) dX1_keptScore_19 ?_
    have r_19 := rg_sc hR hp ((j * 20 + i).toNat)
    refine jx_goto C dX1_keptScore_20 ?_
    exact jx_iret C dX1_keptScore_24 ⟨kgt_in c_3, rfl⟩
  · refine jx_if_eq C dX1_keptScore_6 (by decide) (fun _ => ?_) (fun q => absurd q (by decide))
    refine jx_iconst C dX1_keptScore_23 ?_
    exact jx_iret C dX1_keptScore_24 ⟨kgt_out c_3, rfl⟩
set_option maxHeartbeats 4000000 in
set_option maxRecDepth 100000 in
theorem c_X1_isPeak (l : Launch) (G : GT) (μ : Mem) (p : Nat) (hp : p < 4) (f : Int → Int → Int) (hf : f = kgt (μ (14 + p) 2) (μ (14 + p) 3) (μ (22 + p))) (i j : Int) (hi : 0 ≤ i ∧ i ≤ 1000) (hj : 0 ≤ j ∧ j ≤ 1000) (hR : rng μ) : MI l yX1_isPeak cX1_isPeak 8 .boolean ({ frames := 2, cells := 0, slots := 0, locals := 44 } : Room) G [.inr (ad G (14 + p)), .inl i, .inl j] μ (rdc μ (pk f i j)) := by
  refine MI.of (by decide +kernel) (Nat.le_of_ble_eq_true rfl) ?_
  intro F C Y
  show jX F G 8 0 0 (jE F G (jQi G (rdc μ (pk f i j)))) 0 [some (.inr (ad G (14 + p))), some (.inl i), some (.inl j), none, none, none, none, none] [] μ
  refine jx_aload_n C dX1_isPeak_0 rfl ?_
  refine jx_iload_n C dX1_isPeak_1 rfl ?_
  refine jx_iload_n C dX1_isPeak_2 rfl ?_
  refine jx_cVi (as := [.inl i, .inl j]) (st := []) C Y (c_X1_keptScore l G μ p (by omega) i j (by omega) (by omega) hR) yb_X1_keptScore yv_X1_keptScore wm_X1_60 (jcl_DO G hp _) rfl (by omega) rfl rfl (Nat.le_of_ble_eq_true rfl) ⟨⟨rfl, rfl, Nat.le_of_ble_eq_true rfl, Nat.le_of_ble_eq_true rfl⟩, Nat.zero_le _, Nat.zero_le _⟩ dX1_isPeak_3 ?_
  rintro _ _ ⟨rfl, rfl⟩
  have r_3 := kgt_rng (W := μ (14 + p) 2) (H := μ (14 + p) 3) (v := μ (22 + p)) (fun t => rg_sc hR (p := p) (by omega) t) i j
  rw [← hf] at r_3
  refine jx_top (b := f i j) (by rw [hf]) ?_
  refine jx_istore_n (L' := [some (.inr (ad G (14 + p))), some (.inl i), some (.inl j), some (.inl (f i j)), none, none, none, none]) C dX1_isPeak_6 (by decide) rfl ?_
  refine jx_iload_n C dX1_isPeak_7 rfl ?_
  refine jx_iconst C dX1_isPeak_8 ?_
  refine jx_isub C dX1_isPeak_9 ?_
  refine jx_istore (L' := [some (.inr (ad G (14 + p))), some (.inl i), some (.inl j), some (.inl (f i j)), some (.inl (j - 2)), none, none, none]) C dX1_isPeak_10 (by decide) rfl ?_
  have LP_12 : ∀ (n : Nat) (r : Nat) (row : Int), (r ≤ 5) → (row = j - 2 + (r : Int)) → (∀ k : Nat, k < 5 * r → pkt f i j k) → 6 - r < n → jX F G 8 0 0 (jE F G (jQi G (rdc μ (pk f i j)))) 12 [some (.inr (ad G (14 + p))), some (.inl i), some (.inl j), some (.inl (f i j)), some (.inl row), none, none, none] [] μ := by
    intro n
    induction n with
    | zero =>
      intro r row hr hrow hpk hms
      exact absurd hms (Nat.not_lt_zero _)
    | succ n ih =>
      intro r row hr hrow hpk hms
      have ih_12 := ih
      clear ih
      refine jx_iload C dX1_isPeak_12 rfl ?_
      refine jx_iload_n C dX1_isPeak_14 rfl ?_
      refine jx_iconst C dX1_isPeak_15 ?_
      refine jx_iadd C dX1_isPeak_16 ?_
      refine jx_icmp_gt C dX1_isPeak_17 (by omega) (by omega) (fun c_17 => ?_) (fun c_17 => ?_)
      · refine jx_iconst C dX1_isPeak_99 ?_
        exact jx_zret C dX1_isPeak_100 (Or.inr rfl) ⟨rfl, Or.inl ⟨rfl, by unfold pk; rw [show 25 = 5 * r by omega]; exact hpk⟩⟩
      · refine jx_iload_n C dX1_isPeak_20 rfl ?_
        refine jx_iconst C dX1_isPeak_21 ?_
        refine jx_isub C dX1_isPeak_22 ?_
        refine jx_istore (L' := [some (.inr (ad G (14 + p))), some (.inl i), some (.inl j), some (.inl (f i j)), some (.inl row), some (.inl (i - 2)), none, none]) C dX1_isPeak_23 (by decide) rfl ?_
        have LP_25 : ∀ (n : Nat) (cc : Nat) (col : Int), (cc ≤ 5) → (col = i - 2 + (cc : Int)) → (∀ k : Nat, k < 5 * r + cc → pkt f i j k) → 6 - cc < n → jX F G 8 0 0 (jE F G (jQi G (rdc μ (pk f i j)))) 25 [some (.inr (ad G (14 + p))), some (.inl i), some (.inl j), some (.inl (f i j)), some (.inl row), some (.inl col), none, none] [] μ := by
          intro n
          induction n with
          | zero =>
            intro cc col hcc hcol hpk2 hms
            exact absurd hms (Nat.not_lt_zero _)
          | succ n ih =>
            intro cc col hcc hcol hpk2 hms
            have ih_25 := ih
            clear ih
            refine jx_iload C dX1_isPeak_25 rfl ?_
            refine jx_iload_n C dX1_isPeak_27 rfl ?_
            refine jx_iconst C dX1_isPeak_28 ?_
            refine jx_iadd C dX1_isPeak_29 ?_
            refine jx_icmp_gt C dX1_isPeak_30 (by omega) (by omega) (fun c_30 => ?_) (fun c_30 => ?_)
            · refine jx_iinc (L' := [some (.inr (ad G (14 + p))), some (.inl i), some (.inl j), some (.inl (f i j)), some (.inl (row + 1)), some (.inl col), none, none]) C dX1_isPeak_93 rfl (by decide) rfl ?_
              refine jx_goto C dX1_isPeak_96 ?_
              refine jx_fewer (L' := [some (.inr (ad G (14 + p))), some (.inl i), some (.inl j), some (.inl (f i j)), some (.inl (row + 1)), none, none, none]) (fun i v h => ?_) ?_
              · exact jfew_ok (by simp [jfew]) h
              exact ih_12 (r + 1) (row + 1) (by omega) (by omega) (by rw [show 5 * (r + 1) = 5 * r + cc by omega]; exact hpk2) (by omega)
            · refine jx_aload_n C dX1_isPeak_33 rfl ?_
              refine jx_iload C dX1_isPeak_34 rfl ?_
              refine jx_iload C dX1_isPeak_36 rfl ?_
              refine jx_cVi (as := [.inl col, .inl row]) (st := []) C Y (c_X1_keptScore l G μ p (by omega) col row (by omega) (by omega) hR) yb_X1_keptScore yv_X1_keptScore wm_X1_60 (jcl_DO G hp _) rfl (by omega) rfl rfl (Nat.le_of_ble_eq_true rfl) ⟨⟨rfl, rfl, Nat.le_of_ble_eq_true rfl, Nat.le_of_ble_eq_true rfl⟩, Nat.zero_le _, Nat.zero_le _⟩ dX1_isPeak_38 ?_
              rintro _ _ ⟨rfl, rfl⟩
              have r_38 := kgt_rng (W := μ (14 + p) 2) (H := μ (14 + p) 3) (v := μ (22 + p)) (fun t => rg_sc hR (p := p) (by omega) t) col row
              rw [← hf] at r_38
              refine jx_top (b := f col row) (by rw [hf]) ?_
              refine jx_istore (L' := [some (.inr (ad G (14 + p))), some (.inl i), some (.inl j), some (.inl (f i j)), some (.inl row), some (.inl col), some (.inl (f col row)), none]) C dX1_isPeak_41 (by decide) rfl ?_
              refine jx_iload C dX1_isPeak_43 rfl ?_
              refine jx_iload_n C dX1_isPeak_45 rfl ?_
              refine jx_icmp_lt C dX1_isPeak_46 (by omega) (by omega) (fun c_46 => ?_) (fun c_46 => ?_)
              · refine jx_iconst C dX1_isPeak_61 ?_
                refine jx_goto C dX1_isPeak_62 ?_
                refine jx_istore (L' := [some (.inr (ad G (14 + p))), some (.inl i), some (.inl j), some (.inl (f i j)), some (.inl row), some (.inl col), some (.inl (f col row)), some (.inl 1)]) C dX1_isPeak_66 (by decide) rfl ?_
                refine jx_iload C dX1_isPeak_68 rfl ?_
                refine jx_iload_n C dX1_isPeak_70 rfl ?_
                refine jx_icmp_gt C dX1_isPeak_71 (by omega) (by omega) (fun c_71 => ?_) (fun c_71 => ?_)
                · refine jx_iconst C dX1_isPeak_85 ?_
                  exact jx_zret C dX1_isPeak_86 (Or.inl rfl) ⟨rfl, Or.inr ⟨rfl, fun g => by
          have g1 := (pkt_at (f := f) hcol hrow (by omega)).mp (g (5 * r + cc) (by omega))
          have g2 := g1.2
          omega⟩⟩
                · refine jx_iload C dX1_isPeak_74 rfl ?_
                  refine jx_if_eq C dX1_isPeak_76 (by decide) (fun q => absurd q (by decide)) (fun _ => ?_)
                  refine jx_iload C dX1_isPeak_79 rfl ?_
                  refine jx_iload_n C dX1_isPeak_81 rfl ?_
                  refine jx_icmp_ne C dX1_isPeak_82 (by omega) (by omega) (fun c_82 => ?_) (fun c_82 => ?_)
                  · refine jx_iinc (L' := [some (.inr (ad G (14 + p))), some (.inl i), some (.inl j), some (.inl (f i j)), some (.inl row), some (.inl (col + 1)), some (.inl (f col row)), some (.inl 1)]) C dX1_isPeak_87 rfl (by decide) rfl ?_
                    refine jx_goto C dX1_isPeak_90 ?_
                    refine jx_fewer (L' := [some (.inr (ad G (14 + p))), some (.inl i), some (.inl j), some (.inl (f i j)), some (.inl row), some (.inl (col + 1)), none, none]) (fun i v h => ?_) ?_
                    · exact jfew_ok (by simp [jfew]) h
                    exact ih_25 (cc + 1) (col + 1) (by omega) (by omega) (jlt_s hpk2 ((pkt_at hcol hrow (by omega)).mpr ⟨by omega, fun g => by omega⟩)) (by omega)
                  · refine jx_iconst C dX1_isPeak_85 ?_
                    exact jx_zret C dX1_isPeak_86 (Or.inl rfl) ⟨rfl, Or.inr ⟨rfl, fun g => by
          have g1 := (pkt_at (f := f) hcol hrow (by omega)).mp (g (5 * r + cc) (by omega))
          have g2 := g1.2
          omega⟩⟩
              · refine jx_iload C dX1_isPeak_49 rfl ?_
                refine jx_iload_n C dX1_isPeak_51 rfl ?_
                refine jx_icmp_ne C dX1_isPeak_52 (by omega) (by omega) (fun c_52 => ?_) (fun c_52 => ?_)
                · refine jx_iconst C dX1_isPeak_65 ?_
                  refine jx_istore (L' := [some (.inr (ad G (14 + p))), some (.inl i), some (.inl j), some (.inl (f i j)), some (.inl row), some (.inl col), some (.inl (f col row)), some (.inl 0)]) C dX1_isPeak_66 (by decide) rfl ?_
                  refine jx_iload C dX1_isPeak_68 rfl ?_
                  refine jx_iload_n C dX1_isPeak_70 rfl ?_
                  refine jx_icmp_gt C dX1_isPeak_71 (by omega) (by omega) (fun c_71 => ?_) (fun c_71 => ?_)
                  · refine jx_iconst C dX1_isPeak_85 ?_
                    exact jx_zret C dX1_isPeak_86 (Or.inl rfl) ⟨rfl, Or.inr ⟨rfl, fun g => by
          have g1 := (pkt_at (f := f) hcol hrow (by omega)).mp (g (5 * r + cc) (by omega))
          have g2 := g1.2
          omega⟩⟩
                  · refine jx_iload C dX1_isPeak_74 rfl ?_
                    refine jx_if_eq C dX1_isPeak_76 (by decide) (fun _ => ?_) (fun q => absurd q (by decide))
                    refine jx_iinc (L' := [some (.inr (ad G (14 + p))), some (.inl i), some (.inl j), some (.inl (f i j)), some (.inl row), some (.inl (col + 1)), some (.inl (f col row)), some (.inl 0)]) C dX1_isPeak_87 rfl (by decide) rfl ?_
                    refine jx_goto C dX1_isPeak_90 ?_
                    refine jx_fewer (L' := [some (.inr (ad G (14 + p))), some (.inl i), some (.inl j), some (.inl (f i j)), some (.inl row), some (.inl (col + 1)), none, none]) (fun i v h => ?_) ?_
                    · exact jfew_ok (by simp [jfew]) h
                    exact ih_25 (cc + 1) (col + 1) (by omega) (by omega) (jlt_s hpk2 ((pkt_at hcol hrow (by omega)).mpr ⟨by omega, fun g => by omega⟩)) (by omega)
                · refine jx_iload C dX1_isPeak_55 rfl ?_
                  refine jx_iload_n C dX1_isPeak_57 rfl ?_
                  refine jx_icmp_ge C dX1_isPeak_58 (by omega) (by omega) (fun c_58 => ?_) (fun c_58 => ?_)
                  · refine jx_iconst C dX1_isPeak_65 ?_
                    refine jx_istore (L' := [some (.inr (ad G (14 + p))), some (.inl i), some (.inl j), some (.inl (f i j)), some (.inl row), some (.inl col), some (.inl (f col row)), some (.inl 0)]) C dX1_isPeak_66 (by decide) rfl ?_
                    refine jx_iload C dX1_isPeak_68 rfl ?_
                    refine jx_iload_n C dX1_isPeak_70 rfl ?_
                    refine jx_icmp_gt C dX1_isPeak_71 (by omega) (by omega) (fun c_71 => ?_) (fun c_71 => ?_)
                    · refine jx_iconst C dX1_isPeak_85 ?_
                      exact jx_zret C dX1_isPeak_86 (Or.inl rfl) ⟨rfl, Or.inr ⟨rfl, fun g => by
          have g1 := (pkt_at (f := f) hcol hrow (by omega)).mp (g (5 * r + cc) (by omega))
          have g2 := g1.2
          omega⟩⟩
                    · refine jx_iload C dX1_isPeak_74 rfl ?_
                      refine jx_if_eq C dX1_isPeak_76 (by decide) (fun _ => ?_) (fun q => absurd q (by decide))
                      refine jx_iinc (L' := [some (.inr (ad G (14 + p))), some (.inl i), some (.inl j), some (.inl (f i j)), some (.inl row), some (.inl (col + 1)), some (.inl (f col row)), some (.inl 0)]) C dX1_isPeak_87 rfl (by decide) rfl ?_
                      refine jx_goto C dX1_isPeak_90 ?_
                      refine jx_fewer (L' := [some (.inr (ad G (14 + p))), some (.inl i), some (.inl j), some (.inl (f i j)), some (.inl row), some (.inl (col + 1)), none, none]) (fun i v h => ?_) ?_
                      · exact jfew_ok (by simp [jfew]) h
                      exact ih_25 (cc + 1) (col + 1) (by omega) (by omega) (jlt_s hpk2 ((pkt_at hcol hrow (by omega)).mpr ⟨by omega, fun g => by omega⟩)) (by omega)
                  · refine jx_iconst C dX1_isPeak_61 ?_
                    refine jx_goto C dX1_isPeak_62 ?_
                    refine jx_istore (L' := [some (.inr (ad G (14 + p))), some (.inl i), some (.inl j), some (.inl (f i j)), some (.inl row), some (.inl col), some (.inl (f col row)), some (.inl 1)]) C dX1_isPeak_66 (by decide) rfl ?_
                    refine jx_iload C dX1_isPeak_68 rfl ?_
                    refine jx_iload_n C dX1_isPeak_70 rfl ?_
                    refine jx_icmp_gt C dX1_isPeak_71 (by omega) (by omega) (fun c_71 => ?_) (fun c_71 => ?_)
                    · refine jx_iconst C dX1_isPeak_85 ?_
                      exact jx_zret C dX1_isPeak_86 (Or.inl rfl) ⟨rfl, Or.inr ⟨rfl, fun g => by
          have g1 := (pkt_at (f := f) hcol hrow (by omega)).mp (g (5 * r + cc) (by omega))
          have g2 := g1.2
          omega⟩⟩
                    · refine jx_iload C dX1_isPeak_74 rfl ?_
                      refine jx_if_eq C dX1_isPeak_76 (by decide) (fun q => absurd q (by decide)) (fun _ => ?_)
                      refine jx_iload C dX1_isPeak_79 rfl ?_
                      refine jx_iload_n C dX1_isPeak_81 rfl ?_
                      refine jx_icmp_ne C dX1_isPeak_82 (by omega) (by omega) (fun c_82 => ?_) (fun c_82 => ?_)
                      · refine jx_iinc (L' := [some (.inr (ad G (14 + p))), some (.inl i), some (.inl j), some (.inl (f i j)), some (.inl row), some (.inl (col + 1)), some (.inl (f col row)), some (.inl 1)]) C dX1_isPeak_87 rfl (by decide) rfl ?_
                        refine jx_goto C dX1_isPeak_90 ?_
                        refine jx_fewer (L' := [some (.inr (ad G (14 + p))), some (.inl i), some (.inl j), some (.inl (f i j)), some (.inl row), some (.inl (col + 1)), none, none]) (fun i v h => ?_) ?_
                        · exact jfew_ok (by simp [jfew]) h
                        exact ih_25 (cc + 1) (col + 1) (by omega) (by omega) (jlt_s hpk2 ((pkt_at hcol hrow (by omega)).mpr ⟨by omega, fun g => by omega⟩)) (by omega)
                      · refine jx_iconst C dX1_isPeak_85 ?_
                        exact jx_zret C dX1_isPeak_86 (Or.inl rfl) ⟨rfl, Or.inr ⟨rfl, fun g => by
          have g1 := (pkt_at (f := f) hcol hrow (by omega)).mp (g (5 * r + cc) (by omega))
          have g2 := g1.2
          omega⟩⟩
        exact LP_25 _ 0 (i - 2) (by omega) (by omega) hpk (Nat.lt_succ_self _)
  exact LP_12 _ 0 (j - 2) (by omega) (by omega) (fun k hk => by omega) (Nat.lt_succ_self _)
set_option maxHeartbeats 4000000 in
set_option maxRecDepth 100000 in
theorem c_X1_signOf (l : Launch) (G : GT) (μ : Mem) (p : Nat) (hp : p < 4) (d : Int → Int → Int) (hd : d = dgt (μ (14 + p) 2) (μ (14 + p) 3) (μ (18 + p))) (i j : Int) (hi : 0 ≤ i ∧ i ≤ 1000) (hj : 0 ≤ j ∧ j ≤ 1000) (hR : rng μ) : MI l yX1_signOf cX1_signOf 7 .int ({ frames := 2, cells := 0, slots := 0, locals := 44 } : Room) G [.inr (ad G (14 + p)), .inl i, .inl j] μ (rdq μ (sgn d i j 12)) := by
  refine MI.of (by decide +kernel) (Nat.le_of_ble_eq_true rfl) ?_
  intro F C Y
  show jX F G 7 0 0 (jE F G (jQi G (rdq μ (sgn d i j 12)))) 0 [some (.inr (ad G (14 + p))), some (.inl i), some (.inl j), none, none, none, none] [] μ
  refine jx_iconst C dX1_signOf_0 ?_
  refine jx_istore_n (L' := [some (.inr (ad G (14 + p))), some (.inl i), some (.inl j), some (.inl 0), none, none, none]) C dX1_signOf_1 (by decide) rfl ?_
  refine jx_iconst C dX1_signOf_2 ?_
  refine jx_istore (L' := [some (.inr (ad G (14 + p))), some (.inl i), some (.inl j), some (.inl 0), some (.inl 0), none, none]) C dX1_signOf_3 (by decide) rfl ?_
  have LP_5 : ∀ (n : Nat) (m : Nat) (k : Int) (b : Int), (m ≤ 12) → (k = (m : Int)) → (b = sgn d i j m) → 13 - m < n → jX F G 7 0 0 (jE F G (jQi G (rdq μ (sgn d i j 12)))) 5 [some (.inr (ad G (14 + p))), some (.inl i), some (.inl j), some (.inl b), some (.inl k), none, none] [] μ := by
    intro n
    induction n with
    | zero =>
      intro m k b hm hk hb hms
      exact absurd hms (Nat.not_lt_zero _)
    | succ n ih =>
      intro m k b hm hk hb hms
      have ih_5 := ih
      clear ih
      refine jx_iload C dX1_signOf_5 rfl ?_
      refine jx_bipush C dX1_signOf_7 (by decide +kernel) ?_
      refine jx_icmp_ge C dX1_signOf_9 (by omega) (by decide) (fun c_9 => ?_) (fun c_9 => ?_)
      · refine jx_iload_n C dX1_signOf_76 rfl ?_
        exact jx_iret C dX1_signOf_77 ⟨by rw [hb, show m = 12 by omega], rfl⟩
      · refine jx_aload_n C dX1_signOf_12 rfl ?_
        refine jx_iload_n C dX1_signOf_13 rfl ?_
        refine jx_iload C dX1_signOf_14 rfl ?_
        refine jx_iconst C dX1_signOf_16 ?_
        refine jx_irem (z := k % 5) C dX1_signOf_17 (by omega) (by decide) (by decide) (jtm (by omega)) ?_
        refine jx_iadd C dX1_signOf_18 ?_
        refine jx_iconst C dX1_signOf_19 ?_
        refine jx_isub C dX1_signOf_20 ?_
        refine jx_iload_n C dX1_signOf_21 rfl ?_
        refine jx_iload C dX1_signOf_22 rfl ?_
        refine jx_iconst C dX1_signOf_24 ?_
        refine jx_irem (z := k % 3) C dX1_signOf_25 (by omega) (by decide) (by decide) (jtm (by omega)) ?_
        refine jx_iadd C dX1_signOf_26 ?_
        refine jx_iconst C dX1_signOf_27 ?_
        refine jx_isub C dX1_signOf_28 ?_
        refine jx_cVi (as := [.inl (i + k % 5 - 2), .inl (j + k % 3 - 1)]) (st := []) C Y (c_X1_get l G μ p (by omega) (i + k % 5 - 2) (j + k % 3 - 1) (by omega) (by omega) hR) yb_X1_get yv_X1_get wm_X1_54 (jcl_DO G hp _) rfl (by omega) rfl rfl (Nat.le_of_ble_eq_true rfl) ⟨⟨rfl, rfl, Nat.le_of_ble_eq_true rfl, Nat.le_of_ble_eq_true rfl⟩, Nat.zero_le _, Nat.zero_le _⟩ dX1_signOf_29 ?_
        rintro _ _ ⟨rfl, rfl⟩
        have r_29 := dgt_rng (W := μ (14 + p) 2) (H := μ (14 + p) 3) (v := μ (18 + p)) (fun t => rg_va hR (p := p) (by omega) t) (i + k % 5 - 2) (j + k % 3 - 1)
        rw [← hd] at r_29
        refine jx_top (b := d (i + k % 5 - 2) (j + k % 3 - 1)) (by rw [hd]) ?_
        refine jx_istore (L' := [some (.inr (ad G (14 + p))), some (.inl i), some (.inl j), some (.inl b), some (.inl k), some (.inl (d (i + k % 5 - 2) (j + k % 3 - 1))), none]) C dX1_signOf_32 (by decide) rfl ?_
        refine jx_aload_n C dX1_signOf_34 rfl ?_
        refine jx_iload_n C dX1_signOf_35 rfl ?_
        refine jx_iconst C dX1_signOf_36 ?_
        refine jx_iadd C dX1_signOf_37 ?_
        refine jx_iload C dX1_signOf_38 rfl ?_
        refine jx_iconst C dX1_signOf_40 ?_
        refine jx_irem (z := k % 4) C dX1_signOf_41 (by omega) (by decide) (by decide) (jtm (by omega)) ?_
        refine jx_isub C dX1_signOf_42 ?_
        refine jx_iload_n C dX1_signOf_43 rfl ?_
        refine jx_iload C dX1_signOf_44 rfl ?_
        refine jx_iconst C dX1_signOf_46 ?_
        refine jx_irem (z := k % 5) C dX1_signOf_47 (by omega) (by decide) (by decide) (jtm (by omega)) ?_
        refine jx_iadd C dX1_signOf_48 ?_
        refine jx_iconst C dX1_signOf_49 ?_
        refine jx_isub C dX1_signOf_50 ?_
        refine jx_cVi (as := [.inl (i + 2 - (k % 4)), .inl (j + k % 5 - 2)]) (st := []) C Y (c_X1_get l G μ p (by omega) (i + 2 - (k % 4)) (j + k % 5 - 2) (by omega) (by omega) hR) yb_X1_get yv_X1_get wm_X1_54 (jcl_DO G hp _) rfl (by omega) rfl rfl (Nat.le_of_ble_eq_true rfl) ⟨⟨rfl, rfl, Nat.le_of_ble_eq_true rfl, Nat.le_of_ble_eq_true rfl⟩, Nat.zero_le _, Nat.zero_le _⟩ dX1_signOf_51 ?_
        rintro _ _ ⟨rfl, rfl⟩
        have r_51 := dgt_rng (W := μ (14 + p) 2) (H := μ (14 + p) 3) (v := μ (18 + p)) (fun t => rg_va hR (p := p) (by omega) t) (i + 2 - (k % 4)) (j + k % 5 - 2)
        rw [← hd] at r_51
        refine jx_top (b := d (i + 2 - k % 4) (j + k % 5 - 2)) (by rw [hd]) ?_
        refine jx_istore (L' := [some (.inr (ad G (14 + p))), some (.inl i), some (.inl j), some (.inl b), some (.inl k), some (.inl (d (i + k % 5 - 2) (j + k % 3 - 1))), some (.inl (d (i + 2 - k % 4) (j + k % 5 - 2)))]) C dX1_signOf_54 (by decide) rfl ?_
        refine jx_iload C dX1_signOf_56 rfl ?_
        refine jx_iload C dX1_signOf_58 rfl ?_
        refine jx_icmp_ge C dX1_signOf_60 (by omega) (by omega) (fun c_60 => ?_) (fun c_60 => ?_)
        · refine jx_iinc (L' := [some (.inr (ad G (14 + p))), some (.inl i), some (.inl j), some (.inl b), some (.inl (k + 1)), some (.inl (d (i + k % 5 - 2) (j + k % 3 - 1))), some (.inl (d (i + 2 - k % 4) (j + k % 5 - 2)))]) C dX1_signOf_70 rfl (by decide) rfl ?_
          refine jx_goto C dX1_signOf_73 ?_
          refine jx_fewer (L' := [some (.inr (ad G (14 + p))), some (.inl i), some (.inl j), some (.inl b), some (.inl (k + 1)), none, none]) (fun i v h => ?_) ?_
          · exact jfew_ok (by simp [jfew]) h
          exact ih_5 (m + 1) (k + 1) b (by omega) (by omega) (by subst hk; rw [sgn, if_neg (by omega), hb]) (by omega)
        · refine jx_iload_n C dX1_signOf_63 rfl ?_
          refine jx_iconst C dX1_signOf_64 ?_
          refine jx_iload C dX1_signOf_65 rfl ?_
          refine jx_ishl C dX1_signOf_67 ?_
          refine jx_ior C dX1_signOf_68 ?_
          refine jx_istore_n (L' := [some (.inr (ad G (14 + p))), some (.inl i), some (.inl j), some (.inl (zor b (zshl 1 k))), some (.inl k), some (.inl (d (i + k % 5 - 2) (j + k % 3 - 1))), some (.inl (d (i + 2 - k % 4) (j + k % 5 - 2)))]) C dX1_signOf_69 (by decide) rfl ?_
          refine jx_iinc (L' := [some (.inr (ad G (14 + p))), some (.inl i), some (.inl j), some (.inl (zor b (zshl 1 k))), some (.inl (k + 1)), some (.inl (d (i + k % 5 - 2) (j + k % 3 - 1))), some (.inl (d (i + 2 - k % 4) (j + k % 5 - 2)))]) C dX1_signOf_70 rfl (by decide) rfl ?_
          refine jx_goto C dX1_signOf_73 ?_
          refine jx_fewer (L' := [some (.inr (ad G (14 + p))), some (.inl i), some (.inl j), some (.inl (zor b (zshl 1 k))), some (.inl (k + 1)), none, none]) (fun i v h => ?_) ?_
          · exact jfew_ok (by simp [jfew]) h
          exact ih_5 (m + 1) (k + 1) (zor b (zshl 1 k)) (by omega) (by omega) (by subst hk; rw [sgn, if_pos (by omega), hb]) (by omega)
  exact LP_5 _ 0 0 0 (by omega) (by omega) rfl (Nat.lt_succ_self _)
end
section
set_option maxHeartbeats 4000000 in
set_option maxRecDepth 100000 in
theorem c_X1_resize (l : Launch) (G : GT) (μ : Mem) (p : Nat) (hp : p < 4) (w h : Int) (hw : 0 ≤ w ∧ w ≤ 20) (hh : 0 ≤ h ∧ h ≤ 20) (hR : rng μ) : MV l yX1_resize cX1_resize 3 ({ frames := 1, cells := 0, slots := 0, locals := 21 } : Room) G [.inr (ad G (14 + p)), .inl w, .inl h] μ (fun μ' => rng μ' ∧ μ' = jms (jms (jms μ (14 + p) 2 w) (14 + p) 3 h) (14 + p) 4 1) := by
  refine MV.of (by decide +kernel) (Nat.le_of_ble_eq_true rfl) ?_
  intro F C Y
  show jX F G 3 0 0 (jE F G (jQv G (fun μ' => rng μ' ∧ μ' = jms (jms (jms μ (14 + p) 2 w) (14 + p) 3 h) (14 + p) 4 1))) 0 [some (.inr (ad G (14 + p))), some (.inl w), some (.inl h)] [] μ
  refine jx_aload_n C dX1_resize_0 rfl ?_
  refine jx_iload_n C dX1_resize_1 rfl ?_
  refine jx_bipush C dX1_resize_2 (by decide +kernel) ?_
  refine jx_min C Y (by omega) (by decide) wm_X1_18 ws_J9_min_7cf53 wi_Math wc_J9_min_7cf53 (Nat.le_of_ble_eq_true rfl) ⟨by decide, by decide, by decide, by decide⟩ dX1_resize_4 ?_
  refine jx_top (b := w) (by omega) ?_
  refine jx_put C 2 ft_X1 (jcl_DO G hp _) ((jcl_DO G hp _).trans rfl) (by decide) (by omega) rfl (Or.inl rfl) (by simp) wf_X1_24 dX1_resize_7 ?_
  obtain ⟨μ1, eμ1⟩ : ∃ y, y = jms μ (14 + p) 2 w := ⟨_, rfl⟩
  rw [← eμ1]
  have hR1 : rng μ1 := by rw [eμ1]; exact rs_DO_2 hR hp (by omega) (by omega)
  refine jx_aload_n C dX1_resize_10 rfl ?_
  refine jx_iload_n C dX1_resize_11 rfl ?_
  refine jx_bipush C dX1_resize_12 (by decide +kernel) ?_
  refine jx_min C Y (by omega) (by decide) wm_X1_18 ws_J9_min_7cf53 wi_Math wc_J9_min_7cf53 (Nat.le_of_ble_eq_true rfl) ⟨by decide, by decide, by decide, by decide⟩ dX1_resize_14 ?_
  refine jx_top (b := h) (by omega) ?_
  refine jx_put C 3 ft_X1 (jcl_DO G hp _) ((jcl_DO G hp _).trans rfl) (by decide) (by omega) rfl (Or.inl rfl) (by simp) wf_X1_28 dX1_resize_17 ?_
  obtain ⟨μ2, eμ2⟩ : ∃ y, y = jms μ1 (14 + p) 3 h := ⟨_, rfl⟩
  rw [← eμ2]
  have hR2 : rng μ2 := by rw [eμ2]; exact rs_DO_3 hR1 hp (by omega) (by omega)
  refine jx_aload_n C dX1_resize_20 rfl ?_
  refine jx_iconst C dX1_resize_21 ?_
  refine jx_put C 4 ft_X1 (jcl_DO G hp _) ((jcl_DO G hp _).trans rfl) (by decide) (by omega) rfl (Or.inr ⟨rfl, Or.inr rfl⟩) (by simp) wf_X1_31 dX1_resize_22 ?_
  obtain ⟨μ3, eμ3⟩ : ∃ y, y = jms μ2 (14 + p) 4 1 := ⟨_, rfl⟩
  rw [← eμ3]
  have hR3 : rng μ3 := by rw [eμ3]; exact rs_DO_4 hR2 hp (by omega) (by omega)
  exact jx_vret C dX1_resize_25 ⟨hR3, by rw [eμ3, eμ2, eμ1]⟩
set_option maxHeartbeats 4000000 in
set_option maxRecDepth 100000 in
theorem c_X1_scoreAll (l : Launch) (G : GT) (μ : Mem) (p : Nat) (hp : p < 4) (d : Int → Int → Int) (hd : d = dgt (μ (14 + p) 2) (μ (14 + p) 3) (μ (18 + p))) (hv : μ (14 + p) 4 = 0 → ∀ x y : Int, 0 ≤ x → x < μ (14 + p) 2 → 0 ≤ y → y < μ (14 + p) 3 → μ (22 + p) (y * 20 + x).toNat = sco (μ (14 + p) 2) (μ (14 + p) 3) d x y) (hR : rng μ) : MV l yX1_scoreAll cX1_scoreAll 3 ({ frames := 4, cells := 0, slots := 0, locals := 98 } : Room) G [.inr (ad G (14 + p))] μ (fun μ' => rng μ' ∧ μ' (14 + p) 4 = 0 ∧ (∀ j : Nat, j ≠ 4 → μ' (14 + p) j = μ (14 + p) j) ∧ (∀ k : Nat, k ≠ 14 + p → k ≠ 22 + p → μ' k = μ k) ∧ ∀ x y : Int, 0 ≤ x → x < μ (14 + p) 2 → 0 ≤ y → y < μ (14 + p) 3 → μ' (22 + p) (y * 20 + x).toNat = sco (μ (14 + p) 2) (μ (14 + p) 3) d x y) := by
  refine MV.of (by decide +kernel) (Nat.le_of_ble_eq_true rfl) ?_
  intro F C Y
  show jX F G 3 0 0 (jE F G (jQv G (fun μ' => rng μ' ∧ μ' (14 + p) 4 = 0 ∧ (∀ j : Nat, j ≠ 4 → μ' (14 + p) j = μ (14 + p) j) ∧ (∀ k : Nat, k ≠ 14 + p → k ≠ 22 + p → μ' k = μ k) ∧ ∀ x y : Int, 0 ≤ x → x < μ (14 + p) 2 → 0 ≤ y → y < μ (14 + p) 3 → μ' (22 + p) (y * 20 + x).toNat = sco (μ (14 + p) 2) (μ (14 + p) 3) d x y))) 0 [some (.inr (ad G (14 + p))), none, none] [] μ
  have r_a := rg_DO_2 hR hp
  have r_b := rg_DO_3 hR hp
  refine jx_aload_n C dX1_scoreAll_0 rfl ?_
  refine jx_get (v := .inl (μ (14 + p) 4)) C 4 ft_X1 (jcl_DO G hp _) rfl (by decide) (by omega) wf_X1_31 dX1_scoreAll_1 ?_
  have r_1 := rg_DO_4 hR hp
  refine jx_if_ne C dX1_scoreAll_4 (by omega) (fun c_4 => ?_) (fun c_4 => ?_)
  · refine jx_iconst C dX1_scoreAll_8 ?_
    refine jx_istore_n (L' := [some (.inr (ad G (14 + p))), some (.inl 0), none]) C dX1_scoreAll_9 (by decide) rfl ?_
    have LP_10 : ∀ (n : Nat) (j : Int) (μa : Mem), (rng μa) → (0 ≤ j ∧ j ≤ μ (14 + p) 3) → (∀ k : Nat, k ≠ 22 + p → μa k = μ k) → (∀ x y : Int, 0 ≤ x → x < μ (14 + p) 2 → 0 ≤ y → y < μ (14 + p) 3 → y * 20 + x < j * 20 → μa (22 + p) (y * 20 + x).toNat = sco (μ (14 + p) 2) (μ (14 + p) 3) d x y) → 21 - j.toNat < n → jX F G 3 0 0 (jE F G (jQv G (fun μ' => rng μ' ∧ μ' (14 + p) 4 = 0 ∧ (∀ j : Nat, j ≠ 4 → μ' (14 + p) j = μ (14 + p) j) ∧ (∀ k : Nat, k ≠ 14 + p → k ≠ 22 + p → μ' k = μ k) ∧ ∀ x y : Int, 0 ≤ x → x < μ (14 + p) 2 → 0 ≤ y → y < μ (14 + p) 3 → μ' (22 + p) (y * 20 + x).toNat = sco (μ (14 + p) 2) (μ (14 + p) 3) d x y))) 10 [some (.inr (ad G (14 + p))), some (.inl j), none] [] μa := by
      intro n
      induction n with
      | zero =>
        intro j μa hRa hj hfa hsa hms
        exact absurd hms (Nat.not_lt_zero _)
      | succ n ih =>
        intro j μa hRa hj hfa hsa hms
        have ih_10 := ih
        clear ih
        have q_a : μa (14 + p) 3 = μ (14 + p) 3 := by rw [hfa _ (by omega)]
        have q_b : μa (14 + p) 2 = μ (14 + p) 2 := by rw [hfa _ (by omega)]
        refine jx_iload_n C dX1_scoreAll_10 rfl ?_
        refine jx_aload_n C dX1_scoreAll_11 rfl ?_
        refine jx_get (v := .inl (μa (14 + p) 3)) C 3 ft_X1 (jcl_DO G hp _) rfl (by decide) (by omega) wf_X1_28 dX1_scoreAll_12 ?_
        have r_12 := rg_DO_3 hRa hp
        refine jx_icmp_ge C dX1_scoreAll_15 (by omega) (by omega) (fun c_15 => ?_) (fun c_15 => ?_)
        · refine jx_aload_n C dX1_scoreAll_57 rfl ?_
          refine jx_iconst C dX1_scoreAll_58 ?_
          refine jx_put C 4 ft_X1 (jcl_DO G hp _) ((jcl_DO G hp _).trans rfl) (by decide) (by omega) rfl (Or.inr ⟨rfl, Or.inl rfl⟩) (by simp) wf_X1_31 dX1_scoreAll_59 ?_
          obtain ⟨μ1, eμ1⟩ : ∃ y, y = jms μa (14 + p) 4 0 := ⟨_, rfl⟩
          rw [← eμ1]
          have hR1 : rng μ1 := by rw [eμ1]; exact rs_DO_4 hRa hp (by omega) (by omega)
          exact jx_vret C dX1_scoreAll_62 ⟨hR1, by rw [eμ1]; exact jms_same _ _ _ _, fun q hq => by rw [eμ1, jms_slot _ _ _ _ hq, hfa _ (by omega)], fun k h1 h2 => by rw [eμ1, jms_cell _ _ _ _ h1]; exact hfa k h2, fun x y h1 h2 h3 h4 => by rw [eμ1, jms_cell _ _ _ _ (by omega)]; exact hsa x y h1 h2 h3 h4 (by omega)⟩
        · refine jx_iconst C dX1_scoreAll_18 ?_
          refine jx_istore_n (L' := [some (.inr (ad G (14 + p))), some (.inl j), some (.inl 0)]) C dX1_scoreAll_19 (by decide) rfl ?_
          have LP_20 : ∀ (n : Nat) (i : Int) (μb : Mem), (rng μb) → (0 ≤ i ∧ i ≤ μ (14 + p) 2) → (∀ k : Nat, k ≠ 22 + p → μb k = μ k) → (∀ x y : Int, 0 ≤ x → x < μ (14 + p) 2 → 0 ≤ y → y < μ (14 + p) 3 → y * 20 + x < j * 20 + i → μb (22 + p) (y * 20 + x).toNat = sco (μ (14 + p) 2) (μ (14 + p) 3) d x y) → 21 - i.toNat < n → jX F G 3 0 0 (jE F G (jQv G (fun μ' => rng μ' ∧ μ' (14 + p) 4 = 0 ∧ (∀ j : Nat, j ≠ 4 → μ' (14 + p) j = μ (14 + p) j) ∧ (∀ k : Nat, k ≠ 14 + p → k ≠ 22 + p → μ' k = μ k) ∧ ∀ x y : Int, 0 ≤ x → x < μ (14 + p) 2 → 0 ≤ y → y < μ (14 + p) 3 → μ' (22 + p) (y * 20 + x).toNat = sco (μ (14 + p) 2) (μ (14 + p) 3) d x y))) 20 [some (.inr (ad G (14 + p))), some (.inl j), some (.inl i)] [] μb := by
            intro n
            induction n with
            | zero =>
              intro i μb hRb hi hfb hsb hms
              exact absurd hms (Nat.not_lt_zero _)
            | succ n ih =>
              intro i μb hRb hi hfb hsb hms
              have ih_20 := ih
              clear ih
              have q_c : μb (14 + p) 3 = μ (14 + p) 3 := by rw [hfb _ (by omega)]
              have q_d : μb (14 + p) 2 = μ (14 + p) 2 := by rw [hfb _ (by omega)]
              have hd2 : d = dgt (μb (14 + p) 2) (μb (14 + p) 3) (μb (18 + p)) := by rw [hfb _ (by omega), hfb _ (by omega)]; exact hd
              refine jx_iload_n C dX1_scoreAll_20 rfl ?_
              refine jx_aload_n C dX1_scoreAll_21 rfl ?_
              refine jx_get (v := .inl (μb (14 + p) 2)) C 2 ft_X1 (jcl_DO G hp _) rfl (by decide) (by omega) wf_X1_24 dX1_scoreAll_22 ?_
              have r_22 := rg_DO_2 hRb hp
              refine jx_icmp_ge C dX1_scoreAll_25 (by omega) (by omega) (fun c_25 => ?_) (fun c_25 => ?_)
              · refine jx_iinc (L' := [some (.inr (ad G (14 + p))), some (.inl (j + 1)), some (.inl i)]) C dX1_scoreAll_51 rfl (by decide) rfl ?_
                refine jx_goto C dX1_scoreAll_54 ?_
                refine jx_fewer (L' := [some (.inr (ad G (14 + p))), some (.inl (j + 1)), none]) (fun i v h => ?_) ?_
                · exact jfew_ok (by simp [jfew]) h
                exact ih_10 (j + 1) μb hRb (by omega) hfb (fun x y h1 h2 h3 h4 h5 => hsb x y h1 h2 h3 h4 (by omega)) (by omega)
              · refine jx_aload_n C dX1_scoreAll_28 rfl ?_
                refine jx_get (v := .inr (ad G (22 + p))) C 1 ft_X1 (jcl_DO G hp _) rfl (by decide) (by omega) wf_X1_15 dX1_scoreAll_29 ?_
                refine jx_iload_n C dX1_scoreAll_32 rfl ?_
                refine jx_bipush C dX1_scoreAll_33 (by decide +kernel) ?_
                refine jx_imul C dX1_scoreAll_35 ?_
                refine jx_iload_n C dX1_scoreAll_36 rfl ?_
                refine jx_iadd C dX1_scoreAll_37 ?_
                refine jx_aload_n C dX1_scoreAll_38 rfl ?_
                refine jx_iload_n C dX1_scoreAll_39 rfl ?_
                refine jx_iload_n C dX1_scoreAll_40 rfl ?_
                refine jx_cVi (as := [.inl i, .inl j]) (st := [.inl (j * 20 + i), .inr (ad G (22 + p))]) C Y (c_X1_scoreOf l G μb p (by omega) d hd2 i j (by omega) (by omega) hRb) yb_X1_scoreOf yv_X1_scoreOf wm_X1_57 (jcl_DO G hp _) rfl (by omega) rfl rfl (Nat.le_of_ble_eq_true rfl) ⟨⟨rfl, rfl, Nat.le_of_ble_eq_true rfl, Nat.le_of_ble_eq_true rfl⟩, Nat.zero_le _, Nat.zero_le _⟩ dX1_scoreAll_41 ?_
                rintro _ _ ⟨rfl, rfl⟩
                have r_41 := sco_rng (W := μb (14 + p) 2) (H := μb (14 + p) 3) (d := d) (fun x y => by rw [hd2]; exact dgt_rng (fun t => rg_va hRb (p := p) (by omega) t) x y) i j
                refine jx_iast C (jcl_sc G hp _) (jcl_sc G hp _) (by omega) (by omega) (by omega) (by decide) dX1_scoreAll_44 ?_
                obtain ⟨μ2, eμ2⟩ : ∃ y, y = jms μb (22 + p) ((j * 20 + i).toNat) (sco (μb (14 + p) 2) (μb (14 + p) 3) d i j) := ⟨_, rfl⟩
                rw [← eμ2]
                have hR2 : rng μ2 := by rw [eμ2]; exact rs_sc hRb hp ((j * 20 + i).toNat) (by omega) (by omega)
                refine jx_iinc (L' := [some (.inr (ad G (14 + p))), some (.inl j), some (.inl (i + 1))]) C dX1_scoreAll_45 rfl (by decide) rfl ?_
                refine jx_goto C dX1_scoreAll_48 ?_
                exact ih_20 (i + 1) μ2 hR2 (by omega) (fun k hk => by rw [eμ2, jms_cell _ _ _ _ hk]; exact hfb k hk) (fun x y h1 h2 h3 h4 h5 => by
          rw [eμ2, jms_arr]
          by_cases hx : (y * 20 + x).toNat = (j * 20 + i).toNat
          · have hy : y = j := by omega
            have hx2 : x = i := by omega
            rw [if_pos hx, hy, hx2, q_c, q_d]
          · rw [if_neg hx]
            exact hsb x y h1 h2 h3 h4 (by omega)) (by omega)
          exact LP_20 _ 0 μa hRa (by omega) hfa (fun x y h1 h2 h3 h4 h5 => hsa x y h1 h2 h3 h4 (by omega)) (Nat.lt_succ_self _)
    exact LP_10 _ 0 μ hR (by omega) (fun k hk => rfl) (fun x y h1 h2 h3 h4 h5 => by omega) (Nat.lt_succ_self _)
  · exact jx_vret C dX1_scoreAll_7 ⟨hR, by omega, fun j _ => rfl, fun k _ _ => rfl, fun x y h1 h2 h3 h4 => hv (by omega) x y h1 h2 h3 h4⟩
set_option maxHeartbeats 4000000 in
set_option maxRecDepth 100000 in
theorem c_X7_lightAt (l : Launch) (G : GT) (μ : Mem) (x y : Int) (hx : 0 ≤ x ∧ x ≤ 100000) (hy : 0 ≤ y ∧ y ≤ 100000) (hR : rng μ) : MI l yX7_lightAt cX7_lightAt 4 .int ({ frames := 0, cells := 0, slots := 0, locals := 0 } : Room) G [.inr (ad G 1), .inl x, .inl y] μ (rdq μ (lgt (μ 1 0) x y)) := by
  refine MI.of (by decide +kernel) (Nat.le_of_ble_eq_true rfl) ?_
  intro F C Y
  show jX F G 4 0 0 (jE F G (jQi G (rdq μ (lgt (μ 1 0) x y)))) 0 [some (.inr (ad G 1)), some (.inl x), some (.inl y), none] [] μ
  refine jx_iload_n C dX7_lightAt_0 rfl ?_
  refine jx_iconst C dX7_lightAt_1 ?_
  refine jx_idiv (z := x / 3) C dX7_lightAt_2 (by omega) (by decide) (by decide) (jtd (by omega)) ?_
  refine jx_ldc C dX7_lightAt_3 wk_X7_9 (z := 73856093) (by decide +kernel) ?_
  refine jx_imul C dX7_lightAt_5 ?_
  refine jx_iload_n C dX7_lightAt_6 rfl ?_
  refine jx_iconst C dX7_lightAt_7 ?_
  refine jx_idiv (z := y / 3) C dX7_lightAt_8 (by omega) (by decide) (by decide) (jtd (by omega)) ?_
  refine jx_ldc C dX7_lightAt_9 wk_X7_10 (z := 19349663) (by decide +kernel) ?_
  refine jx_imul C dX7_lightAt_11 ?_
  refine jx_iadd C dX7_lightAt_12 ?_
  refine jx_aload_n C dX7_lightAt_13 rfl ?_
  refine jx_get (v := .inl (μ 1 0)) C 0 ft_X7 (jcl_WO G _) rfl (by decide) (by decide) wf_X7_11 dX7_lightAt_14 ?_
  have r_14 := rg_WO_0 hR
  refine jx_ldc C dX7_lightAt_17 wk_X7_17 (z := 83492791) (by decide +kernel) ?_
  refine jx_imul C dX7_lightAt_19 ?_
  refine jx_iadd C dX7_lightAt_20 ?_
  refine jx_top (b := lg0 (μ 1 0) x y) rfl ?_
  refine jx_istore_n (L' := [some (.inr (ad G 1)), some (.inl x), some (.inl y), some (.inl (lg0 (μ 1 0) x y))]) C dX7_lightAt_21 (by decide) rfl ?_
  refine jx_iload_n C dX7_lightAt_22 rfl ?_
  refine jx_iload_n C dX7_lightAt_23 rfl ?_
  refine jx_bipush C dX7_lightAt_24 (by decide +kernel) ?_
  refine jx_iushr C dX7_lightAt_26 ?_
  refine jx_ixor C dX7_lightAt_27 ?_
  refine jx_ldc C dX7_lightAt_28 wk_X7_18 (z := 739982445) (by decide +kernel) ?_
  refine jx_imul C dX7_lightAt_30 ?_
  refine jx_top (b := lgm (lg0 (μ 1 0) x y)) rfl ?_
  refine jx_istore_n (L' := [some (.inr (ad G 1)), some (.inl x), some (.inl y), some (.inl (lgm (lg0 (μ 1 0) x y)))]) C dX7_lightAt_31 (by decide) rfl ?_
  refine jx_iload_n C dX7_lightAt_32 rfl ?_
  refine jx_iload_n C dX7_lightAt_33 rfl ?_
  refine jx_bipush C dX7_lightAt_34 (by decide +kernel) ?_
  refine jx_iushr C dX7_lightAt_36 ?_
  refine jx_ixor C dX7_lightAt_37 ?_
  refine jx_ldc C dX7_lightAt_38 wk_X7_18 (z := 739982445) (by decide +kernel) ?_
  refine jx_imul C dX7_lightAt_40 ?_
  refine jx_top (b := lgm (lgm (lg0 (μ 1 0) x y))) rfl ?_
  refine jx_istore_n (L' := [some (.inr (ad G 1)), some (.inl x), some (.inl y), some (.inl (lgm (lgm (lg0 (μ 1 0) x y))))]) C dX7_lightAt_41 (by decide) rfl ?_
  refine jx_iload_n C dX7_lightAt_42 rfl ?_
  refine jx_bipush C dX7_lightAt_43 (by decide +kernel) ?_
  refine jx_iushr C dX7_lightAt_45 ?_
  refine jx_sipush C dX7_lightAt_46 (by decide +kernel) ?_
  refine jx_iand C dX7_lightAt_49 ?_
  exact jx_iret C dX7_lightAt_50 ⟨by rfl, rfl⟩
set_option maxHeartbeats 4000000 in
set_option maxRecDepth 100000 in
theorem c_X7_shootInto (l : Launch) (G : GT) (μ : Mem) (p : Nat) (hp : p < 4) (x y g : Int) (hx : 0 ≤ x ∧ x ≤ 1900) (hy : 0 ≤ y ∧ y ≤ 1900) (hg : 1 ≤ g ∧ g ≤ 64) (hch : μ (14 + p) 4 = 1) (hR : rng μ) : MV l yX7_shootInto cX7_shootInto 7 ({ frames := 2, cells := 0, slots := 0, locals := 45 } : Room) G [.inr (ad G 1), .inr (ad G (14 + p)), .inl x, .inl y, .inl g] μ (fun μ' => rng μ' ∧ (∀ k : Nat, k ≠ 18 + p → μ' k = μ k) ∧ ∀ i j : Int, 0 ≤ i → i < μ (14 + p) 2 → 0 ≤ j → j < μ (14 + p) 3 → μ' (18 + p) (j * 20 + i).toNat = shv (μ 1 0) x y g i j) := by
  refine MV.of (by decide +kernel) (Nat.le_of_ble_eq_true rfl) ?_
  intro F C Y
  show jX F G 7 0 0 (jE F G (jQv G (fun μ' => rng μ' ∧ (∀ k : Nat, k ≠ 18 + p → μ' k = μ k) ∧ ∀ i j : Int, 0 ≤ i → i < μ (14 + p) 2 → 0 ≤ j → j < μ (14 + p) 3 → μ' (18 + p) (j * 20 + i).toNat = shv (μ 1 0) x y g i j))) 0 [some (.inr (ad G 1)), some (.inr (ad G (14 + p))), some (.inl x), some (.inl y), some (.inl g), none, none] [] μ
  have r_a := rg_DO_2 hR hp
  have r_b := rg_DO_3 hR hp
  refine jx_iconst C dX7_shootInto_0 ?_
  refine jx_istore (L' := [some (.inr (ad G 1)), some (.inr (ad G (14 + p))), some (.inl x), some (.inl y), some (.inl g), some (.inl 0), none]) C dX7_shootInto_1 (by decide) rfl ?_
  have LP_3 : ∀ (n : Nat) (j : Int) (μa : Mem), (rng μa) → (0 ≤ j ∧ j ≤ μ (14 + p) 3) → (∀ k : Nat, k ≠ 18 + p → μa k = μ k) → (∀ a b : Int, 0 ≤ a → a < μ (14 + p) 2 → 0 ≤ b → b < μ (14 + p) 3 → b * 20 + a < j * 20 → μa (18 + p) (b * 20 + a).toNat = shv (μ 1 0) x y g a b) → 21 - j.toNat < n → jX F G 7 0 0 (jE F G (jQv G (fun μ' => rng μ' ∧ (∀ k : Nat, k ≠ 18 + p → μ' k = μ k) ∧ ∀ i j : Int, 0 ≤ i → i < μ (14 + p) 2 → 0 ≤ j → j < μ (14 + p) 3 → μ' (18 + p) (j * 20 + i).toNat = shv (μ 1 0) x y g i j))) 3 [some (.inr (ad G 1)), some (.inr (ad G (14 + p))), some (.inl x), some (.inl y), some (.inl g), some (.inl j), none] [] μa := by
    intro n
    induction n with
    | zero =>
      intro j μa hRa hj hfa hsa hms
      exact absurd hms (Nat.not_lt_zero _)
    | succ n ih =>
      intro j μa hRa hj hfa hsa hms
      have ih_3 := ih
      clear ih
      have q_a : μa (14 + p) 3 = μ (14 + p) 3 := by rw [hfa _ (by omega)]
      have q_b : μa (14 + p) 2 = μ (14 + p) 2 := by rw [hfa _ (by omega)]
      refine jx_iload C dX7_shootInto_3 rfl ?_
      refine jx_aload_n C dX7_shootInto_5 rfl ?_
      refine jx_get (v := .inl (μa (14 + p) 3)) C 3 ft_X1 (jcl_DO G hp _) rfl (by decide) (by omega) wf_X7_19 dX7_shootInto_6 ?_
      have r_6 := rg_DO_3 hRa hp
      refine jx_icmp_ge C dX7_shootInto_9 (by omega) (by omega) (fun c_9 => ?_) (fun c_9 => ?_)
      · exact jx_vret C dX7_shootInto_68 ⟨hRa, hfa, fun a b h1 h2 h3 h4 => hsa a b h1 h2 h3 h4 (by omega)⟩
      · refine jx_iconst C dX7_shootInto_12 ?_
        refine jx_istore (L' := [some (.inr (ad G 1)), some (.inr (ad G (14 + p))), some (.inl x), some (.inl y), some (.inl g), some (.inl j), some (.inl 0)]) C dX7_shootInto_13 (by decide) rfl ?_
        have LP_15 : ∀ (n : Nat) (i : Int) (μb : Mem), (rng μb) → (0 ≤ i ∧ i ≤ μ (14 + p) 2) → (∀ k : Nat, k ≠ 18 + p → μb k = μ k) → (∀ a b : Int, 0 ≤ a → a < μ (14 + p) 2 → 0 ≤ b → b < μ (14 + p) 3 → b * 20 + a < j * 20 + i → μb (18 + p) (b * 20 + a).toNat = shv (μ 1 0) x y g a b) → 21 - i.toNat < n → jX F G 7 0 0 (jE F G (jQv G (fun μ' => rng μ' ∧ (∀ k : Nat, k ≠ 18 + p → μ' k = μ k) ∧ ∀ i j : Int, 0 ≤ i → i < μ (14 + p) 2 → 0 ≤ j → j < μ (14 + p) 3 → μ' (18 + p) (j * 20 + i).toNat = shv (μ 1 0) x y g i j))) 15 [some (.inr (ad G 1)), some (.inr (ad G (14 + p))), some (.inl x), some (.inl y), some (.inl g), some (.inl j), some (.inl i)] [] μb := by
          intro n
          induction n with
          | zero =>
            intro i μb hRb hi hfb hsb hms
            exact absurd hms (Nat.not_lt_zero _)
          | succ n ih =>
            intro i μb hRb hi hfb hsb hms
            have ih_15 := ih
            clear ih
            have q_c : μb (14 + p) 3 = μ (14 + p) 3 := by rw [hfb _ (by omega)]
            have q_d : μb (14 + p) 2 = μ (14 + p) 2 := by rw [hfb _ (by omega)]
            have q_e : μb (14 + p) 4 = 1 := by rw [hfb _ (by omega)]; exact hch
            refine jx_iload C dX7_shootInto_15 rfl ?_
            refine jx_aload_n C dX7_shootInto_17 rfl ?_
            refine jx_get (v := .inl (μb (14 + p) 2)) C 2 ft_X1 (jcl_DO G hp _) rfl (by decide) (by omega) wf_X7_24 dX7_shootInto_18 ?_
            have r_18 := rg_DO_2 hRb hp
            refine jx_icmp_ge C dX7_shootInto_21 (by omega) (by omega) (fun c_21 => ?_) (fun c_21 => ?_)
            · refine jx_iinc (L' := [some (.inr (ad G 1)), some (.inr (ad G (14 + p))), some (.inl x), some (.inl y), some (.inl g), some (.inl (j + 1)), some (.inl i)]) C dX7_shootInto_62 rfl (by decide) rfl ?_
              refine jx_goto C dX7_shootInto_65 ?_
              refine jx_fewer (L' := [some (.inr (ad G 1)), some (.inr (ad G (14 + p))), some (.inl x), some (.inl y), some (.inl g), some (.inl (j + 1)), none]) (fun i v h => ?_) ?_
              · exact jfew_ok (by simp [jfew]) h
              exact ih_3 (j + 1) μb hRb (by omega) hfb (fun a b h1 h2 h3 h4 h5 => hsb a b h1 h2 h3 h4 (by omega)) (by omega)
            · refine jx_aload_n C dX7_shootInto_24 rfl ?_
              refine jx_iload C dX7_shootInto_25 rfl ?_
              refine jx_iload C dX7_shootInto_27 rfl ?_
              refine jx_sipush C dX7_shootInto_29 (by decide +kernel) ?_
              refine jx_iload C dX7_shootInto_32 rfl ?_
              refine jx_aload_n C dX7_shootInto_34 rfl ?_
              refine jx_iload_n C dX7_shootInto_35 rfl ?_
              refine jx_iload C dX7_shootInto_36 rfl ?_
              refine jx_iadd C dX7_shootInto_38 ?_
              refine jx_iload_n C dX7_shootInto_39 rfl ?_
              refine jx_iload C dX7_shootInto_40 rfl ?_
              refine jx_iadd C dX7_shootInto_42 ?_
              refine jx_cVi (as := [.inl (x + i), .inl (y + j)]) (st := [.inl g, .inl 255, .inl j, .inl i, .inr (ad G (14 + p))]) C Y (c_X7_lightAt l G μb (x + i) (y + j) (by omega) (by omega) hRb) yb_X7_lightAt yv_X7_lightAt wm_X7_27 (jcl_WO G _) rfl (by decide) rfl rfl (Nat.le_of_ble_eq_true rfl) ⟨⟨rfl, rfl, Nat.le_of_ble_eq_true rfl, Nat.le_of_ble_eq_true rfl⟩, Nat.zero_le _, Nat.zero_le _⟩ dX7_shootInto_43 ?_
              rintro _ _ ⟨rfl, rfl⟩
              have r_43 := lgt_rng (μb 1 0) (x + i) (y + j)
              refine jx_top (b := lgt (μ 1 0) (x + i) (y + j)) (by rw [hfb 1 (by omega)]) ?_
              refine jx_imul C dX7_shootInto_46 ?_
              refine jx_bipush C dX7_shootInto_47 (by decide +kernel) ?_
              refine jx_idiv (z := g * lgt (μ 1 0) (x + i) (y + j) / 16) C dX7_shootInto_49 (by have := gl_rng hg (lgt_rng (μ 1 0) (x + i) (y + j)); omega) (by decide) (by decide) (jtd (by have := gl_rng hg (lgt_rng (μ 1 0) (x + i) (y + j)); omega)) ?_
              refine jx_min C Y (by decide) (by have := gl_rng hg (lgt_rng (μ 1 0) (x + i) (y + j)); omega) wm_X7_31 ws_J9_min_7cf53 wi_Math wc_J9_min_7cf53 (Nat.le_of_ble_eq_true rfl) ⟨by decide, by decide, by decide, by decide⟩ dX7_shootInto_50 ?_
              refine jx_top (b := shv (μ 1 0) x y g i j) rfl ?_
              have r_v := shv_rng (s := μ 1 0) (x := x) (y := y) (i := i) (j := j) hg
              refine jx_cVv (as := [.inl i, .inl j, .inl (shv (μ 1 0) x y g i j)]) (st := []) C Y (c_X1_put l G μb p (by omega) i j (shv (μ 1 0) x y g i j) (by omega) (by omega) (by omega) (by omega) hRb) yb_X1_put yv_X1_put wm_X7_36 (jcl_DO G hp _) rfl (by omega) rfl rfl (Nat.le_of_ble_eq_true rfl) ⟨⟨rfl, rfl, Nat.le_of_ble_eq_true rfl, Nat.le_of_ble_eq_true rfl⟩, Nat.zero_le _, Nat.zero_le _⟩ dX7_shootInto_53 ?_
              intro μ1 hμ1
              have hR1 := hμ1.1
              refine jx_iinc (L' := [some (.inr (ad G 1)), some (.inr (ad G (14 + p))), some (.inl x), some (.inl y), some (.inl g), some (.inl j), some (.inl (i + 1))]) C dX7_shootInto_56 rfl (by decide) rfl ?_
              refine jx_goto C dX7_shootInto_59 ?_
              exact ih_15 (i + 1) μ1 hμ1.1 (by omega) (fun k hk => by
          rw [hμ1.2]
          by_cases hk2 : k = 14 + p
          · subst hk2
            funext t
            by_cases ht : t = 4
            · subst ht; rw [jms_same, ← hfb (14 + p) (by omega)]; exact q_e.symm
            · rw [jms_slot _ _ _ _ ht, jms_cell _ _ _ _ hk, hfb _ hk]
          · rw [jms_cell _ _ _ _ hk2, jms_cell _ _ _ _ hk, hfb _ hk]) (fun a b h1 h2 h3 h4 h5 => by
          rw [hμ1.2, jms_cell _ _ _ _ (by omega), jms_arr]
          by_cases hx : (b * 20 + a).toNat = (j * 20 + i).toNat
          · have hy : b = j := by omega
            have hx2 : a = i := by omega
            rw [if_pos hx, hy, hx2]
          · rw [if_neg hx]
            exact hsb a b h1 h2 h3 h4 (by omega)) (by omega)
        exact LP_15 _ 0 μa hRa (by omega) hfa (fun a b h1 h2 h3 h4 h5 => hsa a b h1 h2 h3 h4 (by omega)) (Nat.lt_succ_self _)
  exact LP_3 _ 0 μ hR (by omega) (fun k hk => rfl) (fun a b h1 h2 h3 h4 h5 => by omega) (Nat.lt_succ_self _)
set_option maxHeartbeats 4000000 in
set_option maxRecDepth 100000 in
theorem c_J6_bitCount_0f7a4 (l : Launch) (G : GT) (μ : Mem) (z : Int) : MI l yJ6_bitCount_0f7a4 cJ6_bitCount_0f7a4 1 .int ({ frames := 0, cells := 0, slots := 0, locals := 0 } : Room) G [.inl z] μ (rdq μ (bcf z)) := by
  refine MI.of (by decide +kernel) (Nat.le_of_ble_eq_true rfl) ?_
  intro F C Y
  show jX F G 1 0 0 (jE F G (jQi G (rdq μ (bcf z)))) 0 [some (.inl z)] [] μ
  refine jx_iload_n C dJ6_bitCount_0f7a4_0 rfl ?_
  refine jx_iload_n C dJ6_bitCount_0f7a4_1 rfl ?_
  refine jx_iconst C dJ6_bitCount_0f7a4_2 ?_
  refine jx_iushr C dJ6_bitCount_0f7a4_3 ?_
  refine jx_ldcw C dJ6_bitCount_0f7a4_4 wk_J6_265 (z := 1431655765) (by decide +kernel) ?_
  refine jx_iand C dJ6_bitCount_0f7a4_7 ?_
  refine jx_isub C dJ6_bitCount_0f7a4_8 ?_
  refine jx_top (b := bc1 z) rfl ?_
  refine jx_istore_n (L' := [some (.inl (bc1 z))]) C dJ6_bitCount_0f7a4_9 (by decide) rfl ?_
  refine jx_iload_n C dJ6_bitCount_0f7a4_10 rfl ?_
  refine jx_ldcw C dJ6_bitCount_0f7a4_11 wk_J6_266 (z := 858993459) (by decide +kernel) ?_
  refine jx_iand C dJ6_bitCount_0f7a4_14 ?_
  refine jx_iload_n C dJ6_bitCount_0f7a4_15 rfl ?_
  refine jx_iconst C dJ6_bitCount_0f7a4_16 ?_
  refine jx_iushr C dJ6_bitCount_0f7a4_17 ?_
  refine jx_ldcw C dJ6_bitCount_0f7a4_18 wk_J6_266 (z := 858993459) (by decide +kernel) ?_
  refine jx_iand C dJ6_bitCount_0f7a4_21 ?_
  refine jx_iadd C dJ6_bitCount_0f7a4_22 ?_
  refine jx_top (b := bc2 (bc1 z)) rfl ?_
  refine jx_istore_n (L' := [some (.inl (bc2 (bc1 z)))]) C dJ6_bitCount_0f7a4_23 (by decide) rfl ?_
  refine jx_iload_n C dJ6_bitCount_0f7a4_24 rfl ?_
  refine jx_iload_n C dJ6_bitCount_0f7a4_25 rfl ?_
  refine jx_iconst C dJ6_bitCount_0f7a4_26 ?_
  refine jx_iushr C dJ6_bitCount_0f7a4_27 ?_
  refine jx_iadd C dJ6_bitCount_0f7a4_28 ?_
  refine jx_ldcw C dJ6_bitCount_0f7a4_29 wk_J6_267 (z := 252645135) (by decide +kernel) ?_
  refine jx_iand C dJ6_bitCount_0f7a4_32 ?_
  refine jx_top (b := bc3 (bc2 (bc1 z))) rfl ?_
  refine jx_istore_n (L' := [some (.inl (bc3 (bc2 (bc1 z))))]) C dJ6_bitCount_0f7a4_33 (by decide) rfl ?_
  refine jx_iload_n C dJ6_bitCount_0f7a4_34 rfl ?_
  refine jx_iload_n C dJ6_bitCount_0f7a4_35 rfl ?_
  refine jx_bipush C dJ6_bitCount_0f7a4_36 (by decide +kernel) ?_
  refine jx_iushr C dJ6_bitCount_0f7a4_38 ?_
  refine jx_iadd C dJ6_bitCount_0f7a4_39 ?_
  refine jx_top (b := bc4 (bc3 (bc2 (bc1 z)))) rfl ?_
  refine jx_istore_n (L' := [some (.inl (bc4 (bc3 (bc2 (bc1 z)))))]) C dJ6_bitCount_0f7a4_40 (by decide) rfl ?_
  refine jx_iload_n C dJ6_bitCount_0f7a4_41 rfl ?_
  refine jx_iload_n C dJ6_bitCount_0f7a4_42 rfl ?_
  refine jx_bipush C dJ6_bitCount_0f7a4_43 (by decide +kernel) ?_
  refine jx_iushr C dJ6_bitCount_0f7a4_45 ?_
  refine jx_iadd C dJ6_bitCount_0f7a4_46 ?_
  refine jx_top (b := bc5 (bc4 (bc3 (bc2 (bc1 z))))) rfl ?_
  refine jx_istore_n (L' := [some (.inl (bc5 (bc4 (bc3 (bc2 (bc1 z))))))]) C dJ6_bitCount_0f7a4_47 (by decide) rfl ?_
  refine jx_iload_n C dJ6_bitCount_0f7a4_48 rfl ?_
  refine jx_bipush C dJ6_bitCount_0f7a4_49 (by decide +kernel) ?_
  refine jx_iand C dJ6_bitCount_0f7a4_51 ?_
  exact jx_iret C dJ6_bitCount_0f7a4_52 ⟨by rfl, rfl⟩
end
section
set_option maxHeartbeats 4000000 in
set_option maxRecDepth 100000 in
theorem c_X2_insert (l : Launch) (G : GT) (μ : Mem) (p : Nat) (hp : p < 4) (f : Int → Int → Int) (a : Mks) (t : Nat) (i j sc : Int) (hM : MAok μ p f a) (hi : i = ((t % 20 : Nat) : Int)) (hj : j = ((t / 20 : Nat) : Int)) (ht : t < 400) (hsc : sc = fS f t) (hsr : 0 ≤ sc ∧ sc ≤ 585225) (hR : rng μ) : MV l yX2_insert cX2_insert 6 ({ frames := 1, cells := 0, slots := 0, locals := 21 } : Room) G [.inr (ad G (26 + p)), .inl i, .inl j, .inl sc] μ (fun μ' => rng μ' ∧ MAok μ' p f (ins (fS f) t a) ∧ ∀ k : Nat, k ≠ 26 + p → k ≠ 30 + p → k ≠ 34 + p → k ≠ 38 + p → μ' k = μ k) := by
  refine MV.of (by decide +kernel) (Nat.le_of_ble_eq_true rfl) ?_
  intro F C Y
  show jX F G 6 0 0 (jE F G (jQv G (fun μ' => rng μ' ∧ MAok μ' p f (ins (fS f) t a) ∧ ∀ k : Nat, k ≠ 26 + p → k ≠ 30 + p → k ≠ 34 + p → k ≠ 38 + p → μ' k = μ k))) 0 [some (.inr (ad G (26 + p))), some (.inl i), some (.inl j), some (.inl sc), none, none] [] μ
  have h16 := hM.1
  refine jx_aload_n C dX2_insert_0 rfl ?_
  refine jx_get (v := .inl (μ (26 + p) 4)) C 4 ft_X2 (jcl_MA G hp _) rfl (by decide) (by omega) wf_X2_24 dX2_insert_1 ?_
  have r_1 := rg_MA_4 hR hp
  refine jx_top (b := (a.1 : Int)) hM.2.1 ?_
  refine jx_istore (L' := [some (.inr (ad G (26 + p))), some (.inl i), some (.inl j), some (.inl sc), some (.inl (a.1 : Int)), none]) C dX2_insert_4 (by decide) rfl ?_
  have CUT_30 : ∀ (sp : Nat) (k : Int), (k = (sp : Int)) → (sp ≤ a.1) → (plc (fS f) a.2 sc a.1 = sp) → jX F G 6 0 0 (jE F G (jQv G (fun μ' => rng μ' ∧ MAok μ' p f (ins (fS f) t a) ∧ ∀ k : Nat, k ≠ 26 + p → k ≠ 30 + p → k ≠ 34 + p → k ≠ 38 + p → μ' k = μ k))) 30 [some (.inr (ad G (26 + p))), some (.inl i), some (.inl j), some (.inl sc), some (.inl k), none] [] μ := by
    intro sp k hk hle hsp
    refine jx_iload C dX2_insert_30 rfl ?_
    refine jx_bipush C dX2_insert_32 (by decide +kernel) ?_
    refine jx_icmp_lt C dX2_insert_34 (by omega) (by decide) (fun c_34 => ?_) (fun c_34 => ?_)
    · refine jx_aload_n C dX2_insert_38 rfl ?_
      refine jx_aload_n C dX2_insert_39 rfl ?_
      refine jx_get (v := .inl (μ (26 + p) 4)) C 4 ft_X2 (jcl_MA G hp _) rfl (by decide) (by omega) wf_X2_24 dX2_insert_40 ?_
      have r_40 := rg_MA_4 hR hp
      refine jx_top (b := (a.1 : Int)) hM.2.1 ?_
      refine jx_iconst C dX2_insert_43 ?_
      refine jx_iadd C dX2_insert_44 ?_
      refine jx_bipush C dX2_insert_45 (by decide +kernel) ?_
      refine jx_min C Y (by omega) (by decide) wm_X2_51 ws_J9_min_7cf53 wi_Math wc_J9_min_7cf53 (Nat.le_of_ble_eq_true rfl) ⟨by decide, by decide, by decide, by decide⟩ dX2_insert_47 ?_
      refine jx_put C 4 ft_X2 (jcl_MA G hp _) ((jcl_MA G hp _).trans rfl) (by decide) (by omega) rfl (Or.inl rfl) (by simp) wf_X2_24 dX2_insert_50 ?_
      obtain ⟨μ1, eμ1⟩ : ∃ y, y = jms μ (26 + p) 4 (min ((a.1 : Int) + 1) 16) := ⟨_, rfl⟩
      rw [← eμ1]
      have hR1 : rng μ1 := by rw [eμ1]; exact rs_MA_4 hR hp (by omega) (by omega)
      refine jx_aload_n C dX2_insert_53 rfl ?_
      refine jx_get (v := .inl (μ1 (26 + p) 4)) C 4 ft_X2 (jcl_MA G hp _) rfl (by decide) (by omega) wf_X2_24 dX2_insert_54 ?_
      have r_54 := rg_MA_4 hR1 hp
      refine jx_top (b := min ((a.1 : Int) + 1) 16) (by rw [eμ1]; exact jms_same _ _ _ _) ?_
      refine jx_iconst C dX2_insert_57 ?_
      refine jx_isub C dX2_insert_58 ?_
      refine jx_istore (L' := [some (.inr (ad G (26 + p))), some (.inl i), some (.inl j), some (.inl sc), some (.inl k), some (.inl (min ((a.1 : Int) + 1) 16 - 1))]) C dX2_insert_59 (by decide) rfl ?_
      have LP_61 : ∀ (n : Nat) (m : Nat) (k5 : Int) (μa : Mem), (rng μa) → (k5 = (m : Int)) → (sp ≤ m ∧ m + 1 ≤ min (a.1 + 1) 16) → (∀ x, μa (30 + p) x = if m < x ∧ x < min (a.1 + 1) 16 then μ (30 + p) (x - 1) else μ (30 + p) x) → (∀ x, μa (34 + p) x = if m < x ∧ x < min (a.1 + 1) 16 then μ (34 + p) (x - 1) else μ (34 + p) x) → (∀ x, μa (38 + p) x = if m < x ∧ x < min (a.1 + 1) 16 then μ (38 + p) (x - 1) else μ (38 + p) x) → (μa (26 + p) 4 = min ((a.1 : Int) + 1) 16) → (∀ k : Nat, k ≠ 26 + p → k ≠ 30 + p → k ≠ 34 + p → k ≠ 38 + p → μa k = μ k) → m + 1 < n → jX F G 6 0 0 (jE F G (jQv G (fun μ' => rng μ' ∧ MAok μ' p f (ins (fS f) t a) ∧ ∀ k : Nat, k ≠ 26 + p → k ≠ 30 + p → k ≠ 34 + p → k ≠ 38 + p → μ' k = μ k))) 61 [some (.inr (ad G (26 + p))), some (.inl i), some (.inl j), some (.inl sc), some (.inl k), some (.inl k5)] [] μa := by
        intro n
        induction n with
        | zero =>
          intro m k5 μa hRa hk5 hm hA0 hA1 hA2 hc26 hfa hms
          exact absurd hms (Nat.not_lt_zero _)
        | succ n ih =>
          intro m k5 μa hRa hk5 hm hA0 hA1 hA2 hc26 hfa hms
          have ih_61 := ih
          clear ih
          refine jx_iload C dX2_insert_61 rfl ?_
          refine jx_iload C dX2_insert_63 rfl ?_
          refine jx_icmp_le C dX2_insert_65 (by omega) (by omega) (fun c_65 => ?_) (fun c_65 => ?_)
          · refine jx_aload_n C dX2_insert_122 rfl ?_
            refine jx_get (v := .inr (ad G (30 + p))) C 0 ft_X2 (jcl_MA G hp _) rfl (by decide) (by omega) wf_X2_9 dX2_insert_123 ?_
            refine jx_iload C dX2_insert_126 rfl ?_
            refine jx_iload_n C dX2_insert_128 rfl ?_
            refine jx_iast C (jcl_co G hp _) (jcl_co G hp _) (by omega) (by omega) (by omega) (by decide) dX2_insert_129 ?_
            obtain ⟨μ2, eμ2⟩ : ∃ y, y = jms μa (30 + p) k.toNat i := ⟨_, rfl⟩
            rw [← eμ2]
            have hR2 : rng μ2 := by rw [eμ2]; exact rs_co hRa hp k.toNat (by omega) (by omega)
            refine jx_aload_n C dX2_insert_130 rfl ?_
            refine jx_get (v := .inr (ad G (34 + p))) C 1 ft_X2 (jcl_MA G hp _) rfl (by decide) (by omega) wf_X2_15 dX2_insert_131 ?_
            refine jx_iload C dX2_insert_134 rfl ?_
            refine jx_iload_n C dX2_insert_136 rfl ?_
            refine jx_iast C (jcl_ro G hp _) (jcl_ro G hp _) (by omega) (by omega) (by omega) (by decide) dX2_insert_137 ?_
            obtain ⟨μ3, eμ3⟩ : ∃ y, y = jms μ2 (34 + p) k.toNat j := ⟨_, rfl⟩
            rw [← eμ3]
            have hR3 : rng μ3 := by rw [eμ3]; exact rs_ro hR2 hp k.toNat (by omega) (by omega)
            refine jx_aload_n C dX2_insert_138 rfl ?_
            refine jx_get (v := .inr (ad G (38 + p))) C 2 ft_X2 (jcl_MA G hp _) rfl (by decide) (by omega) wf_X2_18 dX2_insert_139 ?_
            refine jx_iload C dX2_insert_142 rfl ?_
            refine jx_iload_n C dX2_insert_144 rfl ?_
            refine jx_iast C (jcl_he G hp _) (jcl_he G hp _) (by omega) (by omega) (by omega) (by decide) dX2_insert_145 ?_
            obtain ⟨μ4, eμ4⟩ : ∃ y, y = jms μ3 (38 + p) k.toNat sc := ⟨_, rfl⟩
            rw [← eμ4]
            have hR4 : rng μ4 := by rw [eμ4]; exact rs_he hR3 hp k.toNat (by omega) (by omega)
            exact jx_vret C dX2_insert_146 ⟨hR4, ins_MA (sp := sp) hM (by rw [← hsc]; exact hsp) (by omega) (by rw [eμ4, jms_cell _ _ _ _ (by omega), eμ3, jms_cell _ _ _ _ (by omega), eμ2, jms_cell _ _ _ _ (by omega)]; exact hc26) (fun x => by rw [eμ4, jms_cell _ _ _ _ (by omega), eμ3, jms_cell _ _ _ _ (by omega), eμ2, jms_arr, show k.toNat = sp by omega, hA0, show m = sp by omega, hi]) (fun x => by rw [eμ4, jms_cell _ _ _ _ (by omega), eμ3, jms_arr, show k.toNat = sp by omega, eμ2, jms_cell _ _ _ _ (by omega), hA1, show m = sp by omega, hj]) (fun x => by rw [eμ4, jms_arr, show k.toNat = sp by omega, eμ3, jms_cell _ _ _ _ (by omega), eμ2, jms_cell _ _ _ _ (by omega), hA2, show m = sp by omega, hsc]), fun k h1 h2 h3 h4 => by rw [eμ4, jms_cell _ _ _ _ h4, eμ3, jms_cell _ _ _ _ h3, eμ2, jms_cell _ _ _ _ h2]; exact hfa k h1 h2 h3 h4⟩
          · refine jx_aload_n C dX2_insert_68 rfl ?_
            refine jx_get (v := .inr (ad G (30 + p))) C 0 ft_X2 (jcl_MA G hp _) rfl (by decide) (by omega) wf_X2_9 dX2_insert_69 ?_
            refine jx_iload C dX2_insert_72 rfl ?_
            refine jx_aload_n C dX2_insert_74 rfl ?_
            refine jx_get (v := .inr (ad G (30 + p))) C 0 ft_X2 (jcl_MA G hp _) rfl (by decide) (by omega) wf_X2_9 dX2_insert_75 ?_
            refine jx_iload C dX2_insert_78 rfl ?_
            refine jx_iconst C dX2_insert_80 ?_
            refine jx_isub C dX2_insert_81 ?_
            refine jx_iald C (jcl_co G hp _) (by omega) (by omega) (by omega) (by decide) dX2_insert_82 ?_
            have r_82 := rg_co hRa hp ((k5 - 1).toNat)
            refine jx_iast C (jcl_co G hp _) (jcl_co G hp _) (by omega) (by omega) (by omega) (by decide) dX2_insert_83 ?_
            obtain ⟨μ5, eμ5⟩ : ∃ y, y = jms μa (30 + p) k5.toNat (μa (30 + p) (k5 - 1).toNat) := ⟨_, rfl⟩
            rw [← eμ5]
            have hR5 : rng μ5 := by rw [eμ5]; exact rs_co hRa hp k5.toNat (by omega) (by omega)
            refine jx_aload_n C dX2_insert_84 rfl ?_
            refine jx_get (v := .inr (ad G (34 + p))) C 1 ft_X2 (jcl_MA G hp _) rfl (by decide) (by omega) wf_X2_15 dX2_insert_85 ?_
            refine jx_iload C dX2_insert_88 rfl ?_
            refine jx_aload_n C dX2_insert_90 rfl ?_
            refine jx_get (v := .inr (ad G (34 + p))) C 1 ft_X2 (jcl_MA G hp _) rfl (by decide) (by omega) wf_X2_15 dX2_insert_91 ?_
            refine jx_iload C dX2_insert_94 rfl ?_
            refine jx_iconst C dX2_insert_96 ?_
            refine jx_isub C dX2_insert_97 ?_
            refine jx_iald C (jcl_ro G hp _) (by omega) (by omega) (by omega) (by decide) dX2_insert_98 ?_
            have r_98 := rg_ro hR5 hp ((k5 - 1).toNat)
            try rw [eμ5, jms_cell _ _ _ _ (by omega)] at r_98
            refine jx_top (b := μa (34 + p) (k5 - 1).toNat) (by rw [eμ5, jms_cell _ _ _ _ (by omega)]) ?_
            refine jx_iast C (jcl_ro G hp _) (jcl_ro G hp _) (by omega) (by omega) (by omega) (by decide) dX2_insert_99 ?_
            obtain ⟨μ6, eμ6⟩ : ∃ y, y = jms μ5 (34 + p) k5.toNat (μa (34 + p) (k5 - 1).toNat) := ⟨_, rfl⟩
            rw [← eμ6]
            have hR6 : rng μ6 := by rw [eμ6]; exact rs_ro hR5 hp k5.toNat (by omega) (by omega)
            refine jx_aload_n C dX2_insert_100 rfl ?_
            refine jx_get (v := .inr (ad G (38 + p))) C 2 ft_X2 (jcl_MA G hp _) rfl (by decide) (by omega) wf_X2_18 dX2_insert_101 ?_
            refine jx_iload C dX2_insert_104 rfl ?_
            refine jx_aload_n C dX2_insert_106 rfl ?_
            refine jx_get (v := .inr (ad G (38 + p))) C 2 ft_X2 (jcl_MA G hp _) rfl (by decide) (by omega) wf_X2_18 dX2_insert_107 ?_
            refine jx_iload C dX2_insert_110 rfl ?_
            refine jx_iconst C dX2_insert_112 ?_
            refine jx_isub C dX2_insert_113 ?_
            refine jx_iald C (jcl_he G hp _) (by omega) (by omega) (by omega) (by decide) dX2_insert_114 ?_
            have r_114 := rg_he hR6 hp ((k5 - 1).toNat)
            try rw [eμ6, jms_cell _ _ _ _ (by omega), eμ5, jms_cell _ _ _ _ (by omega)] at r_114
            refine jx_top (b := μa (38 + p) (k5 - 1).toNat) (by rw [eμ6, jms_cell _ _ _ _ (by omega), eμ5, jms_cell _ _ _ _ (by omega)]) ?_
            refine jx_iast C (jcl_he G hp _) (jcl_he G hp _) (by omega) (by omega) (by omega) (by decide) dX2_insert_115 ?_
            obtain ⟨μ7, eμ7⟩ : ∃ y, y = jms μ6 (38 + p) k5.toNat (μa (38 + p) (k5 - 1).toNat) := ⟨_, rfl⟩
            rw [← eμ7]
            have hR7 : rng μ7 := by rw [eμ7]; exact rs_he hR6 hp k5.toNat (by omega) (by omega)
            refine jx_iinc (L' := [some (.inr (ad G (26 + p))), some (.inl i), some (.inl j), some (.inl sc), some (.inl k), some (.inl (k5 + (-1)))]) C dX2_insert_116 rfl (by decide) rfl ?_
            refine jx_goto C dX2_insert_119 ?_
            have em : k5.toNat = m := by omega
            have em1 : (k5 - 1).toNat = m - 1 := by omega
            exact ih_61 (m - 1) (k5 + (-1)) μ7 hR7 (by omega) (by omega) (sh_step (m := m) hA0 (by omega) (by omega) (fun x => by rw [eμ7, jms_cell _ _ _ _ (by omega), eμ6, jms_cell _ _ _ _ (by omega), eμ5, jms_arr, em, em1])) (sh_step (m := m) hA1 (by omega) (by omega) (fun x => by rw [eμ7, jms_cell _ _ _ _ (by omega), eμ6, jms_arr, em, em1, eμ5, jms_cell _ _ _ _ (by omega)])) (sh_step (m := m) hA2 (by omega) (by omega) (fun x => by rw [eμ7, jms_arr, em, em1, eμ6, jms_cell _ _ _ _ (by omega), eμ5, jms_cell _ _ _ _ (by omega)])) (by rw [eμ7, jms_cell _ _ _ _ (by omega), eμ6, jms_cell _ _ _ _ (by omega), eμ5, jms_cell _ _ _ _ (by omega)]; exact hc26) (fun k h1 h2 h3 h4 => by rw [eμ7, jms_cell _ _ _ _ h4, eμ6, jms_cell _ _ _ _ h3, eμ5, jms_cell _ _ _ _ h2]; exact hfa k h1 h2 h3 h4) (by omega)
      have hs0 : ∀ c, c ≠ 26 + p → μ1 c = μ c := fun c hc => by rw [eμ1]; exact jms_cell _ _ _ _ hc
      exact LP_61 _ (min (a.1 + 1) 16 - 1) (min ((a.1 : Int) + 1) 16 - 1) μ1 hR1 (by omega) (by omega) (fun x => by rw [hs0 _ (by omega), if_neg (by omega)]) (fun x => by rw [hs0 _ (by omega), if_neg (by omega)]) (fun x => by rw [hs0 _ (by omega), if_neg (by omega)]) (by rw [eμ1]; exact jms_same _ _ _ _) (fun k h1 _ _ _ => hs0 k h1) (Nat.lt_succ_self _)
    · exact jx_vret C dX2_insert_37 ⟨hR, by rw [ins, if_neg (by rw [← hsc, hsp]; omega)]; exact hM, fun k _ _ _ _ => rfl⟩
  have LP_6 : ∀ (n : Nat) (sl : Nat) (k : Int), (k = (sl : Int)) → (sl ≤ a.1) → (plc (fS f) a.2 sc a.1 = plc (fS f) a.2 sc sl) → sl + 1 < n → jX F G 6 0 0 (jE F G (jQv G (fun μ' => rng μ' ∧ MAok μ' p f (ins (fS f) t a) ∧ ∀ k : Nat, k ≠ 26 + p → k ≠ 30 + p → k ≠ 34 + p → k ≠ 38 + p → μ' k = μ k))) 6 [some (.inr (ad G (26 + p))), some (.inl i), some (.inl j), some (.inl sc), some (.inl k), none] [] μ := by
    intro n
    induction n with
    | zero =>
      intro sl k hk hle hpl hms
      exact absurd hms (Nat.not_lt_zero _)
    | succ n ih =>
      intro sl k hk hle hpl hms
      have ih_6 := ih
      clear ih
      refine jx_iload C dX2_insert_6 rfl ?_
      refine jx_if_le C dX2_insert_8 (by omega) (fun c_8 => ?_) (fun c_8 => ?_)
      · exact CUT_30 sl k (by omega) (by omega) (by rw [hpl]; exact plc_at (by first | exact Or.inl (by omega) | exact Or.inr (by have h1 := (hM.2.2 (sl - 1) (by omega)).2.2; rw [show (k - 1).toNat = sl - 1 by omega] at c_21; omega)))
      · refine jx_aload_n C dX2_insert_11 rfl ?_
        refine jx_get (v := .inr (ad G (38 + p))) C 2 ft_X2 (jcl_MA G hp _) rfl (by decide) (by omega) wf_X2_18 dX2_insert_12 ?_
        refine jx_iload C dX2_insert_15 rfl ?_
        refine jx_iconst C dX2_insert_17 ?_
        refine jx_isub C dX2_insert_18 ?_
        refine jx_iald C (jcl_he G hp _) (by omega) (by omega) (by omega) (by decide) dX2_insert_19 ?_
        have r_19 := rg_he hR hp ((k - 1).toNat)
        refine jx_iload_n C dX2_insert_20 rfl ?_
        refine jx_icmp_ge C dX2_insert_21 (by omega) (by omega) (fun c_21 => ?_) (fun c_21 => ?_)
        · exact CUT_30 sl k (by omega) (by omega) (by rw [hpl]; exact plc_at (by first | exact Or.inl (by omega) | exact Or.inr (by have h1 := (hM.2.2 (sl - 1) (by omega)).2.2; rw [show (k - 1).toNat = sl - 1 by omega] at c_21; omega)))
        · refine jx_iinc (L' := [some (.inr (ad G (26 + p))), some (.inl i), some (.inl j), some (.inl sc), some (.inl (k + (-1))), none]) C dX2_insert_24 rfl (by decide) rfl ?_
          refine jx_goto C dX2_insert_27 ?_
          exact ih_6 (sl - 1) (k + (-1)) (by omega) (by omega) (by rw [hpl, plc_go (by omega) (by have h1 := (hM.2.2 (sl - 1) (by omega)).2.2; rw [show (k - 1).toNat = sl - 1 by omega] at c_21; omega)]) (by omega)
  exact LP_6 _ a.1 (a.1 : Int) rfl (Nat.le_refl _) rfl (Nat.lt_succ_self _)
set_option maxHeartbeats 4000000 in
set_option maxRecDepth 100000 in
theorem c_X2_find (l : Launch) (G : GT) (μ : Mem) (p : Nat) (hp : p < 4) (bar : Int) (d f : Int → Int → Int) (hd : d = dgt (μ (14 + p) 2) (μ (14 + p) 3) (μ (18 + p))) (hf : f = kgt (μ (14 + p) 2) (μ (14 + p) 3) (μ (22 + p))) (hbar : 1 ≤ bar ∧ bar ≤ 1000000) (hR : rng μ) : MV l yX2_find cX2_find 6 ({ frames := 3, cells := 0, slots := 0, locals := 71 } : Room) G [.inr (ad G (26 + p)), .inr (ad G (14 + p)), .inl bar] μ (fun μ' => rng μ' ∧ MAok μ' p f (mkf f (μ (14 + p) 2) (μ (14 + p) 3) bar 400) ∧ (∀ m, m < (mkf f (μ (14 + p) 2) (μ (14 + p) 3) bar 400).1 → μ' (42 + p) m = sgn d (((mkf f (μ (14 + p) 2) (μ (14 + p) 3) bar 400).2 m % 20 : Nat) : Int) (((mkf f (μ (14 + p) 2) (μ (14 + p) 3) bar 400).2 m / 20 : Nat) : Int) 12) ∧ ∀ k : Nat, k ≠ 26 + p → k ≠ 30 + p → k ≠ 34 + p → k ≠ 38 + p → k ≠ 42 + p → μ' k = μ k) := by
  refine MV.of (by decide +kernel) (Nat.le_of_ble_eq_true rfl) ?_
  intro F C Y
  show jX F G 6 0 0 (jE F G (jQv G (fun μ' => rng μ' ∧ MAok μ' p f (mkf f (μ (14 + p) 2) (μ (14 + p) 3) bar 400) ∧ (∀ m, m < (mkf f (μ (14 + p) 2) (μ (14 + p) 3) bar 400).1 → μ' (42 + p) m = sgn d (((mkf f (μ (14 + p) 2) (μ (14 + p) 3) bar 400).2 m % 20 : Nat) : Int) (((mkf f (μ (14 + p) 2) (μ (14 + p) 3) bar 400).2 m / 20 : Nat) : Int) 12) ∧ ∀ k : Nat, k ≠ 26 + p → k ≠ 30 + p → k ≠ 34 + p → k ≠ 38 + p → k ≠ 42 + p → μ' k = μ k))) 0 [some (.inr (ad G (26 + p))), some (.inr (ad G (14 + p))), some (.inl bar), none, none, none] [] μ
  have r_a := rg_DO_2 hR hp
  have r_b := rg_DO_3 hR hp
  refine jx_aload_n C dX2_find_0 rfl ?_
  refine jx_iconst C dX2_find_1 ?_
  refine jx_put C 4 ft_X2 (jcl_MA G hp _) ((jcl_MA G hp _).trans rfl) (by decide) (by omega) rfl (Or.inl rfl) (by simp) wf_X2_24 dX2_find_2 ?_
  obtain ⟨μ1, eμ1⟩ : ∃ y, y = jms μ (26 + p) 4 0 := ⟨_, rfl⟩
  rw [← eμ1]
  have hR1 : rng μ1 := by rw [eμ1]; exact rs_MA_4 hR hp (by omega) (by omega)
  refine jx_iconst C dX2_find_5 ?_
  refine jx_istore_n (L' := [some (.inr (ad G (26 + p))), some (.inr (ad G (14 + p))), some (.inl bar), some (.inl 0), none, none]) C dX2_find_6 (by decide) rfl ?_
  have LP_7 : ∀ (n : Nat) (y : Nat) (j : Int) (μa : Mem), (rng μa) → (j = (y : Int)) → ((y : Int) ≤ μ (14 + p) 3) → (MAok μa p f (mkf f (μ (14 + p) 2) (μ (14 + p) 3) bar (20 * y))) → (∀ k : Nat, k ≠ 26 + p → k ≠ 30 + p → k ≠ 34 + p → k ≠ 38 + p → μa k = μ k) → 21 - y < n → jX F G 6 0 0 (jE F G (jQv G (fun μ' => rng μ' ∧ MAok μ' p f (mkf f (μ (14 + p) 2) (μ (14 + p) 3) bar 400) ∧ (∀ m, m < (mkf f (μ (14 + p) 2) (μ (14 + p) 3) bar 400).1 → μ' (42 + p) m = sgn d (((mkf f (μ (14 + p) 2) (μ (14 + p) 3) bar 400).2 m % 20 : Nat) : Int) (((mkf f (μ (14 + p) 2) (μ (14 + p) 3) bar 400).2 m / 20 : Nat) : Int) 12) ∧ ∀ k : Nat, k ≠ 26 + p → k ≠ 30 + p → k ≠ 34 + p → k ≠ 38 + p → k ≠ 42 + p → μ' k = μ k))) 7 [some (.inr (ad G (26 + p))), some (.inr (ad G (14 + p))), some (.inl bar), some (.inl j), none, none] [] μa := by
    intro n
    induction n with
    | zero =>
      intro y j μa hRa hj hy hMa hfa hms
      exact absurd hms (Nat.not_lt_zero _)
    | succ n ih =>
      intro y j μa hRa hj hy hMa hfa hms
      have ih_7 := ih
      clear ih
      have q_a : μa (14 + p) 3 = μ (14 + p) 3 := by rw [hfa _ (by omega) (by omega) (by omega) (by omega)]
      have q_b : μa (14 + p) 2 = μ (14 + p) 2 := by rw [hfa _ (by omega) (by omega) (by omega) (by omega)]
      refine jx_iload_n C dX2_find_7 rfl ?_
      refine jx_aload_n C dX2_find_8 rfl ?_
      refine jx_get (v := .inl (μa (14 + p) 3)) C 3 ft_X1 (jcl_DO G hp _) rfl (by decide) (by omega) wf_X2_28 dX2_find_9 ?_
      have r_9 := rg_DO_3 hRa hp
      refine jx_icmp_ge C dX2_find_12 (by omega) (by omega) (fun c_12 => ?_) (fun c_12 => ?_)
      · refine jx_iconst C dX2_find_73 ?_
        refine jx_istore_n (L' := [some (.inr (ad G (26 + p))), some (.inr (ad G (14 + p))), some (.inl bar), some (.inl 0), none, none]) C dX2_find_74 (by decide) rfl ?_
        have LP_75 : ∀ (n : Nat) (q : Nat) (m : Int) (μd : Mem), (rng μd) → (m = (q : Int)) → (q ≤ (mkf f (μ (14 + p) 2) (μ (14 + p) 3) bar 400).1) → (MAok μd p f (mkf f (μ (14 + p) 2) (μ (14 + p) 3) bar 400)) → (∀ x, x < q → μd (42 + p) x = sgn d (((mkf f (μ (14 + p) 2) (μ (14 + p) 3) bar 400).2 x % 20 : Nat) : Int) (((mkf f (μ (14 + p) 2) (μ (14 + p) 3) bar 400).2 x / 20 : Nat) : Int) 12) → (∀ k : Nat, k ≠ 26 + p → k ≠ 30 + p → k ≠ 34 + p → k ≠ 38 + p → k ≠ 42 + p → μd k = μ k) → (mkf f (μ (14 + p) 2) (μ (14 + p) 3) bar 400).1 + 1 - q < n → jX F G 6 0 0 (jE F G (jQv G (fun μ' => rng μ' ∧ MAok μ' p f (mkf f (μ (14 + p) 2) (μ (14 + p) 3) bar 400) ∧ (∀ m, m < (mkf f (μ (14 + p) 2) (μ (14 + p) 3) bar 400).1 → μ' (42 + p) m = sgn d (((mkf f (μ (14 + p) 2) (μ (14 + p) 3) bar 400).2 m % 20 : Nat) : Int) (((mkf f (μ (14 + p) 2) (μ (14 + p) 3) bar 400).2 m / 20 : Nat) : Int) 12) ∧ ∀ k : Nat, k ≠ 26 + p → k ≠ 30 + p → k ≠ 34 + p → k ≠ 38 + p → k ≠ 42 + p → μ' k = μ k))) 75 [some (.inr (ad G (26 + p))), some (.inr (ad G (14 + p))), some (.inl bar), some (.inl m), none, none] [] μd := by
          intro n
          induction n with
          | zero =>
            intro q m μd hRd hm hq hMd hsd hfd hms
            exact absurd hms (Nat.not_lt_zero _)
          | succ n ih =>
            intro q m μd hRd hm hq hMd hsd hfd hms
            have ih_75 := ih
            clear ih
            have h16 := hMd.1
            have hcn := hMd.2.1
            have hd2 : d = dgt (μd (14 + p) 2) (μd (14 + p) 3) (μd (18 + p)) := by rw [hfd _ (by omega) (by omega) (by omega) (by omega) (by omega), hfd _ (by omega) (by omega) (by omega) (by omega) (by omega)]; exact hd
            refine jx_iload_n C dX2_find_75 rfl ?_
            refine jx_aload_n C dX2_find_76 rfl ?_
            refine jx_get (v := .inl (μd (26 + p) 4)) C 4 ft_X2 (jcl_MA G hp _) rfl (by decide) (by omega) wf_X2_24 dX2_find_77 ?_
            have r_77 := rg_MA_4 hRd hp
            refine jx_icmp_ge C dX2_find_80 (by omega) (by omega) (fun c_80 => ?_) (fun c_80 => ?_)
            · exact jx_vret C dX2_find_111 ⟨hRd, hMd, fun x hx => hsd x (by omega), hfd⟩
            · refine jx_aload_n C dX2_find_83 rfl ?_
              refine jx_get (v := .inr (ad G (42 + p))) C 3 ft_X2 (jcl_MA G hp _) rfl (by decide) (by omega) wf_X2_21 dX2_find_84 ?_
              refine jx_iload_n C dX2_find_87 rfl ?_
              refine jx_aload_n C dX2_find_88 rfl ?_
              refine jx_aload_n C dX2_find_89 rfl ?_
              refine jx_get (v := .inr (ad G (30 + p))) C 0 ft_X2 (jcl_MA G hp _) rfl (by decide) (by omega) wf_X2_9 dX2_find_90 ?_
              refine jx_iload_n C dX2_find_93 rfl ?_
              refine jx_iald C (jcl_co G hp _) (by omega) (by omega) (by omega) (by decide) dX2_find_94 ?_
              have r_94 := rg_co hRd hp m.toNat
              refine jx_aload_n C dX2_find_95 rfl ?_
              refine jx_get (v := .inr (ad G (34 + p))) C 1 ft_X2 (jcl_MA G hp _) rfl (by decide) (by omega) wf_X2_15 dX2_find_96 ?_
              refine jx_iload_n C dX2_find_99 rfl ?_
              refine jx_iald C (jcl_ro G hp _) (by omega) (by omega) (by omega) (by decide) dX2_find_100 ?_
              have r_100 := rg_ro hRd hp m.toNat
              refine jx_cVi (as := [.inl (μd (30 + p) m.toNat), .inl (μd (34 + p) m.toNat)]) (st := [.inl m, .inr (ad G (42 + p))]) C Y (c_X1_signOf l G μd p (by omega) d hd2 (μd (30 + p) m.toNat) (μd (34 + p) m.toNat) (by omega) (by omega) hRd) yb_X1_signOf yv_X1_signOf wm_X2_48 (jcl_DO G hp _) rfl (by omega) rfl rfl (Nat.le_of_ble_eq_true rfl) ⟨⟨rfl, rfl, Nat.le_of_ble_eq_true rfl, Nat.le_of_ble_eq_true rfl⟩, Nat.zero_le _, Nat.zero_le _⟩ dX2_find_101 ?_
              rintro _ _ ⟨rfl, rfl⟩
              have r_101 := sgn12 d (μd (30 + p) m.toNat) (μd (34 + p) m.toNat)
              refine jx_iast C (jcl_si G hp _) (jcl_si G hp _) (by omega) (by omega) (by omega) (by decide) dX2_find_104 ?_
              obtain ⟨μ2, eμ2⟩ : ∃ y, y = jms μd (42 + p) m.toNat (sgn d (μd (30 + p) m.toNat) (μd (34 + p) m.toNat) 12) := ⟨_, rfl⟩
              rw [← eμ2]
              have hR2 : rng μ2 := by rw [eμ2]; exact rs_si hRd hp m.toNat (by omega) (by omega)
              refine jx_iinc (L' := [some (.inr (ad G (26 + p))), some (.inr (ad G (14 + p))), some (.inl bar), some (.inl (m + 1)), none, none]) C dX2_find_105 rfl (by decide) rfl ?_
              refine jx_goto C dX2_find_108 ?_
              exact ih_75 (q + 1) (m + 1) μ2 hR2 (by omega) (by omega) (MAok_fr hMd (by rw [eμ2]; exact jms_cell _ _ _ _ (by omega)) (by rw [eμ2]; exact jms_cell _ _ _ _ (by omega)) (by rw [eμ2]; exact jms_cell _ _ _ _ (by omega)) (by rw [eμ2]; exact jms_cell _ _ _ _ (by omega))) (fun x hx => by
        rw [eμ2, jms_arr]
        by_cases hxq : x = q
        · rw [if_pos (by omega), show m.toNat = q by omega, (hMd.2.2 q (by omega)).1, (hMd.2.2 q (by omega)).2.1, hxq]
        · rw [if_neg (by omega)]; exact hsd x (by omega)) (fun k h1 h2 h3 h4 h5 => by rw [eμ2, jms_cell _ _ _ _ h5]; exact hfd k h1 h2 h3 h4 h5) (by omega)
        have hMe : MAok μa p f (mkf f (μ (14 + p) 2) (μ (14 + p) 3) bar 400) := by rw [mkf_end (y := y) (by omega) (by omega)]; exact hMa
        exact LP_75 _ 0 0 μa hRa rfl (Nat.zero_le _) hMe (fun x hx => absurd hx (Nat.not_lt_zero _)) (fun k h1 h2 h3 h4 h5 => hfa k h1 h2 h3 h4) (Nat.lt_succ_self _)
      · refine jx_iconst C dX2_find_15 ?_
        refine jx_istore (L' := [some (.inr (ad G (26 + p))), some (.inr (ad G (14 + p))), some (.inl bar), some (.inl j), some (.inl 0), none]) C dX2_find_16 (by decide) rfl ?_
        have LP_18 : ∀ (n : Nat) (x : Nat) (i : Int) (μb : Mem), (rng μb) → (i = (x : Int)) → ((x : Int) ≤ μ (14 + p) 2) → (MAok μb p f (mkf f (μ (14 + p) 2) (μ (14 + p) 3) bar (20 * y + x))) → (∀ k : Nat, k ≠ 26 + p → k ≠ 30 + p → k ≠ 34 + p → k ≠ 38 + p → μb k = μ k) → 21 - x < n → jX F G 6 0 0 (jE F G (jQv G (fun μ' => rng μ' ∧ MAok μ' p f (mkf f (μ (14 + p) 2) (μ (14 + p) 3) bar 400) ∧ (∀ m, m < (mkf f (μ (14 + p) 2) (μ (14 + p) 3) bar 400).1 → μ' (42 + p) m = sgn d (((mkf f (μ (14 + p) 2) (μ (14 + p) 3) bar 400).2 m % 20 : Nat) : Int) (((mkf f (μ (14 + p) 2) (μ (14 + p) 3) bar 400).2 m / 20 : Nat) : Int) 12) ∧ ∀ k : Nat, k ≠ 26 + p → k ≠ 30 + p → k ≠ 34 + p → k ≠ 38 + p → k ≠ 42 + p → μ' k = μ k))) 18 [some (.inr (ad G (26 + p))), some (.inr (ad G (14 + p))), some (.inl bar), some (.inl j), some (.inl i), none] [] μb := by
          intro n
          induction n with
          | zero =>
            intro x i μb hRb hi hx hMb hfb hms
            exact absurd hms (Nat.not_lt_zero _)
          | succ n ih =>
            intro x i μb hRb hi hx hMb hfb hms
            have ih_18 := ih
            clear ih
            have q_c : μb (14 + p) 3 = μ (14 + p) 3 := by rw [hfb _ (by omega) (by omega) (by omega) (by omega)]
            have q_d : μb (14 + p) 2 = μ (14 + p) 2 := by rw [hfb _ (by omega) (by omega) (by omega) (by omega)]
            have hf2 : f = kgt (μb (14 + p) 2) (μb (14 + p) 3) (μb (22 + p)) := by rw [hfb _ (by omega) (by omega) (by omega) (by omega), hfb _ (by omega) (by omega) (by omega) (by omega)]; exact hf
            refine jx_iload C dX2_find_18 rfl ?_
            refine jx_aload_n C dX2_find_20 rfl ?_
            refine jx_get (v := .inl (μb (14 + p) 2)) C 2 ft_X1 (jcl_DO G hp _) rfl (by decide) (by omega) wf_X2_33 dX2_find_21 ?_
            have r_21 := rg_DO_2 hRb hp
            refine jx_icmp_ge C dX2_find_24 (by omega) (by omega) (fun c_24 => ?_) (fun c_24 => ?_)
            · refine jx_iinc (L' := [some (.inr (ad G (26 + p))), some (.inr (ad G (14 + p))), some (.inl bar), some (.inl (j + 1)), some (.inl i), none]) C dX2_find_67 rfl (by decide) rfl ?_
              refine jx_goto C dX2_find_70 ?_
              refine jx_fewer (L' := [some (.inr (ad G (26 + p))), some (.inr (ad G (14 + p))), some (.inl bar), some (.inl (j + 1)), none, none]) (fun i v h => ?_) ?_
              · exact jfew_ok (by simp [jfew]) h
              exact ih_7 (y + 1) (j + 1) μb hRb (by omega) (by omega) (by rw [mkf_row (x := x) (by omega) (by omega)]; exact hMb) hfb (by omega)
            · refine jx_aload_n C dX2_find_27 rfl ?_
              refine jx_iload C dX2_find_28 rfl ?_
              refine jx_iload_n C dX2_find_30 rfl ?_
              refine jx_cVi (as := [.inl i, .inl j]) (st := []) C Y (c_X1_keptScore l G μb p (by omega) i j (by omega) (by omega) hRb) yb_X1_keptScore yv_X1_keptScore wm_X2_36 (jcl_DO G hp _) rfl (by omega) rfl rfl (Nat.le_of_ble_eq_true rfl) ⟨⟨rfl, rfl, Nat.le_of_ble_eq_true rfl, Nat.le_of_ble_eq_true rfl⟩, Nat.zero_le _, Nat.zero_le _⟩ dX2_find_31 ?_
              rintro _ _ ⟨rfl, rfl⟩
              have r_31 := kgt_rng (W := μb (14 + p) 2) (H := μb (14 + p) 3) (v := μb (22 + p)) (fun t => rg_sc hRb (p := p) (by omega) t) i j
              rw [← hf2] at r_31
              refine jx_top (b := f i j) (by rw [hf2]) ?_
              refine jx_istore (L' := [some (.inr (ad G (26 + p))), some (.inr (ad G (14 + p))), some (.inl bar), some (.inl j), some (.inl i), some (.inl (f i j))]) C dX2_find_34 (by decide) rfl ?_
              refine jx_iload C dX2_find_36 rfl ?_
              refine jx_iload_n C dX2_find_38 rfl ?_
              refine jx_icmp_lt C dX2_find_39 (by omega) (by omega) (fun c_39 => ?_) (fun c_39 => ?_)
              · refine jx_iinc (L' := [some (.inr (ad G (26 + p))), some (.inr (ad G (14 + p))), some (.inl bar), some (.inl j), some (.inl (i + 1)), some (.inl (f i j))]) C dX2_find_61 rfl (by decide) rfl ?_
                refine jx_goto C dX2_find_64 ?_
                refine jx_fewer (L' := [some (.inr (ad G (26 + p))), some (.inr (ad G (14 + p))), some (.inl bar), some (.inl j), some (.inl (i + 1)), none]) (fun i v h => ?_) ?_
                · exact jfew_ok (by simp [jfew]) h
                exact ih_18 (x + 1) (i + 1) μb hRb (by omega) (by omega) (by rw [← Nat.add_assoc, mkf_no (fun h => by have h2 := (isM_at (by omega) hi hj).mp h; first | exact c_46 h2.2.2.2 | omega)]; exact hMb) hfb (by omega)
              · refine jx_aload_n C dX2_find_42 rfl ?_
                refine jx_iload C dX2_find_43 rfl ?_
                refine jx_iload_n C dX2_find_45 rfl ?_
                refine jx_cVi (as := [.inl i, .inl j]) (st := []) C Y (c_X1_isPeak l G μb p (by omega) f hf2 i j (by omega) (by omega) hRb) yb_X1_isPeak yv_X1_isPeak wm_X2_40 (jcl_DO G hp _) rfl (by omega) rfl rfl (Nat.le_of_ble_eq_true rfl) ⟨⟨rfl, rfl, Nat.le_of_ble_eq_true rfl, Nat.le_of_ble_eq_true rfl⟩, Nat.zero_le _, Nat.zero_le _⟩ dX2_find_46 ?_
                rintro _ _ ⟨rfl, ⟨rfl, c_46⟩ | ⟨rfl, c_46⟩⟩
                · refine jx_if_eq C dX2_find_49 (by decide) (fun q => absurd q (by decide)) (fun _ => ?_)
                  refine jx_aload_n C dX2_find_52 rfl ?_
                  refine jx_iload C dX2_find_53 rfl ?_
                  refine jx_iload_n C dX2_find_55 rfl ?_
                  refine jx_iload C dX2_find_56 rfl ?_
                  refine jx_cVv (as := [.inl i, .inl j, .inl (f i j)]) (st := []) C Y (c_X2_insert l G μb p (by omega) f (mkf f (μ (14 + p) 2) (μ (14 + p) 3) bar (20 * y + x)) (20 * y + x) i j (f i j) hMb (by omega) (by omega) (by omega) ((fS_at (by omega) hi hj).symm) (by omega) hRb) yb_X2_insert yv_X2_insert wm_X2_44 (jcl_MA G hp _) rfl (by omega) rfl rfl (Nat.le_of_ble_eq_true rfl) ⟨⟨rfl, rfl, Nat.le_of_ble_eq_true rfl, Nat.le_of_ble_eq_true rfl⟩, Nat.zero_le _, Nat.zero_le _⟩ dX2_find_58 ?_
                  intro μ3 hμ3
                  have hR3 := hμ3.1
                  refine jx_iinc (L' := [some (.inr (ad G (26 + p))), some (.inr (ad G (14 + p))), some (.inl bar), some (.inl j), some (.inl (i + 1)), some (.inl (f i j))]) C dX2_find_61 rfl (by decide) rfl ?_
                  refine jx_goto C dX2_find_64 ?_
                  refine jx_fewer (L' := [some (.inr (ad G (26 + p))), some (.inr (ad G (14 + p))), some (.inl bar), some (.inl j), some (.inl (i + 1)), none]) (fun i v h => ?_) ?_
                  · exact jfew_ok (by simp [jfew]) h
                  exact ih_18 (x + 1) (i + 1) μ3 hR3 (by omega) (by omega) (by rw [← Nat.add_assoc, mkf_yes ((isM_at (by omega) hi hj).mpr ⟨by omega, by omega, by omega, c_46⟩)]; exact hμ3.2.1) (fun k h1 h2 h3 h4 => by rw [hμ3.2.2 k h1 h2 h3 h4]; exact hfb k h1 h2 h3 h4) (by omega)
                · refine jx_if_eq C dX2_find_49 (by decide) (fun _ => ?_) (fun q => absurd q (by decide))
                  refine jx_iinc (L' := [some (.inr (ad G (26 + p))), some (.inr (ad G (14 + p))), some (.inl bar), some (.inl j), some (.inl (i + 1)), some (.inl (f i j))]) C dX2_find_61 rfl (by decide) rfl ?_
                  refine jx_goto C dX2_find_64 ?_
                  refine jx_fewer (L' := [some (.inr (ad G (26 + p))), some (.inr (ad G (14 + p))), some (.inl bar), some (.inl j), some (.inl (i + 1)), none]) (fun i v h => ?_) ?_
                  · exact jfew_ok (by simp [jfew]) h
                  exact ih_18 (x + 1) (i + 1) μb hRb (by omega) (by omega) (by rw [← Nat.add_assoc, mkf_no (fun h => by have h2 := (isM_at (by omega) hi hj).mp h; first | exact c_46 h2.2.2.2 | omega)]; exact hMb) hfb (by omega)
        exact LP_18 _ 0 0 μa hRa rfl (by omega) hMa hfa (Nat.lt_succ_self _)
  exact LP_7 _ 0 0 μ1 hR1 rfl (by omega) ⟨Nat.zero_le _, by rw [eμ1]; exact jms_same _ _ _ _, fun m hm => absurd hm (Nat.not_lt_zero _)⟩ (fun k h1 _ _ _ => by rw [eμ1]; exact jms_cell _ _ _ _ h1) (Nat.lt_succ_self _)
set_option maxHeartbeats 4000000 in
set_option maxRecDepth 100000 in
theorem c_X2_nearestTo (l : Launch) (G : GT) (μ : Mem) (p : Nat) (hp : p < 4) (s : Int) (hs : 0 ≤ s ∧ s ≤ 4095) (hR : rng μ) : MI l yX2_nearestTo cX2_nearestTo 6 .int ({ frames := 1, cells := 0, slots := 0, locals := 20 } : Room) G [.inr (ad G (26 + p)), .inl s] μ (rdq μ (nrs (μ (42 + p)) s (μ (26 + p) 4).toNat)) := by
  refine MI.of (by decide +kernel) (Nat.le_of_ble_eq_true rfl) ?_
  intro F C Y
  show jX F G 6 0 0 (jE F G (jQi G (rdq μ (nrs (μ (42 + p)) s (μ (26 + p) 4).toNat)))) 0 [some (.inr (ad G (26 + p))), some (.inl s), none, none, none, none] [] μ
  have r_a := rg_MA_4 hR hp
  refine jx_bipush C dX2_nearestTo_0 (by decide +kernel) ?_
  refine jx_istore_n (L' := [some (.inr (ad G (26 + p))), some (.inl s), some (.inl (-6)), none, none, none]) C dX2_nearestTo_2 (by decide) rfl ?_
  refine jx_bipush C dX2_nearestTo_3 (by decide +kernel) ?_
  refine jx_istore_n (L' := [some (.inr (ad G (26 + p))), some (.inl s), some (.inl (-6)), some (.inl 13), none, none]) C dX2_nearestTo_5 (by decide) rfl ?_
  refine jx_iconst C dX2_nearestTo_6 ?_
  refine jx_istore (L' := [some (.inr (ad G (26 + p))), some (.inl s), some (.inl (-6)), some (.inl 13), some (.inl 0), none]) C dX2_nearestTo_7 (by decide) rfl ?_
  have LP_9 : ∀ (n : Nat) (k : Nat) (m : Int) (lo : Int) (ne : Int), (m = (k : Int)) → ((k : Int) ≤ μ (26 + p) 4) → (lo = (nbr (μ (42 + p)) s k).2) → (ne = (nbr (μ (42 + p)) s k).1) → 17 - k < n → jX F G 6 0 0 (jE F G (jQi G (rdq μ (nrs (μ (42 + p)) s (μ (26 + p) 4).toNat)))) 9 [some (.inr (ad G (26 + p))), some (.inl s), some (.inl ne), some (.inl lo), some (.inl m), none] [] μ := by
    intro n
    induction n with
    | zero =>
      intro k m lo ne hm hk hlo hne hms
      exact absurd hms (Nat.not_lt_zero _)
    | succ n ih =>
      intro k m lo ne hm hk hlo hne hms
      have ih_9 := ih
      clear ih
      have hb := nbr_rng (μ (42 + p)) s k
      refine jx_iload C dX2_nearestTo_9 rfl ?_
      refine jx_aload_n C dX2_nearestTo_11 rfl ?_
      refine jx_get (v := .inl (μ (26 + p) 4)) C 4 ft_X2 (jcl_MA G hp _) rfl (by decide) (by omega) wf_X2_24 dX2_nearestTo_12 ?_
      have r_12 := rg_MA_4 hR hp
      refine jx_icmp_ge C dX2_nearestTo_15 (by omega) (by omega) (fun c_15 => ?_) (fun c_15 => ?_)
      · refine jx_iload_n C dX2_nearestTo_50 rfl ?_
        exact jx_iret C dX2_nearestTo_51 ⟨by rw [hne, nrs, show (μ (26 + p) 4).toNat = k by omega], rfl⟩
      · refine jx_aload_n C dX2_nearestTo_18 rfl ?_
        refine jx_get (v := .inr (ad G (42 + p))) C 3 ft_X2 (jcl_MA G hp _) rfl (by decide) (by omega) wf_X2_21 dX2_nearestTo_19 ?_
        refine jx_iload C dX2_nearestTo_22 rfl ?_
        refine jx_iald C (jcl_si G hp _) (by omega) (by omega) (by omega) (by decide) dX2_nearestTo_24 ?_
        have r_24 := rg_si hR hp m.toNat
        refine jx_top (b := μ (42 + p) k) (by rw [show m.toNat = k by omega]) ?_
        refine jx_iload_n C dX2_nearestTo_25 rfl ?_
        refine jx_ixor C dX2_nearestTo_26 ?_
        refine jx_cSi (as := [.inl (zxor (μ (42 + p) k) s)]) (st := []) C Y (c_J6_bitCount_0f7a4 l G μ (zxor (μ (42 + p) k) s)) yb_J6_bitCount_0f7a4 ws_J6_bitCount_0f7a4 wm_X2_56 rfl rfl (Nat.le_of_ble_eq_true rfl) ⟨⟨rfl, rfl, Nat.le_of_ble_eq_true rfl, Nat.le_of_ble_eq_true rfl⟩, Nat.zero_le _, Nat.zero_le _⟩ dX2_nearestTo_27 ?_
        rintro _ _ ⟨rfl, rfl⟩
        have r_d := dst_rng (μ (42 + p) k) s
        refine jx_top (b := dst (μ (42 + p) k) s) (bcf_dst (rg_si hR hp k) hs) ?_
        refine jx_istore (L' := [some (.inr (ad G (26 + p))), some (.inl s), some (.inl ne), some (.inl lo), some (.inl m), some (.inl (dst (μ (42 + p) k) s))]) C dX2_nearestTo_30 (by decide) rfl ?_
        refine jx_iload C dX2_nearestTo_32 rfl ?_
        refine jx_iload_n C dX2_nearestTo_34 rfl ?_
        refine jx_icmp_ge C dX2_nearestTo_35 (by omega) (by omega) (fun c_35 => ?_) (fun c_35 => ?_)
        · refine jx_iinc (L' := [some (.inr (ad G (26 + p))), some (.inl s), some (.inl ne), some (.inl lo), some (.inl (m + 1)), some (.inl (dst (μ (42 + p) k) s))]) C dX2_nearestTo_44 rfl (by decide) rfl ?_
          refine jx_goto C dX2_nearestTo_47 ?_
          refine jx_fewer (L' := [some (.inr (ad G (26 + p))), some (.inl s), some (.inl ne), some (.inl lo), some (.inl (m + 1)), none]) (fun i v h => ?_) ?_
          · exact jfew_ok (by simp [jfew]) h
          exact ih_9 (k + 1) (m + 1) lo ne (by omega) (by omega) (by rw [nbr, if_neg (by omega)]; exact hlo) (by rw [nbr, if_neg (by omega)]; exact hne) (by omega)
        · refine jx_iload C dX2_nearestTo_38 rfl ?_
          refine jx_istore_n (L' := [some (.inr (ad G (26 + p))), some (.inl s), some (.inl ne), some (.inl (dst (μ (42 + p) k) s)), some (.inl m), some (.inl (dst (μ (42 + p) k) s))]) C dX2_nearestTo_40 (by decide) rfl ?_
          refine jx_iload C dX2_nearestTo_41 rfl ?_
          refine jx_istore_n (L' := [some (.inr (ad G (26 + p))), some (.inl s), some (.inl m), some (.inl (dst (μ (42 + p) k) s)), some (.inl m), some (.inl (dst (μ (42 + p) k) s))]) C dX2_nearestTo_43 (by decide) rfl ?_
          refine jx_iinc (L' := [some (.inr (ad G (26 + p))), some (.inl s), some (.inl m), some (.inl (dst (μ (42 + p) k) s)), some (.inl (m + 1)), some (.inl (dst (μ (42 + p) k) s))]) C dX2_nearestTo_44 rfl (by decide) rfl ?_
          refine jx_goto C dX2_nearestTo_47 ?_
          refine jx_fewer (L' := [some (.inr (ad G (26 + p))), some (.inl s), some (.inl m), some (.inl (dst (μ (42 + p) k) s)), some (.inl (m + 1)), none]) (fun i v h => ?_) ?_
          · exact jfew_ok (by simp [jfew]) h
          exact ih_9 (k + 1) (m + 1) (dst (μ (42 + p) k) s) m (by omega) (by omega) (by rw [nbr, if_pos (by omega)]) (by rw [nbr, if_pos (by omega)]; exact hm) (by omega)
  exact LP_9 _ 0 0 13 (-6) rfl (by omega) rfl rfl (Nat.lt_succ_self _)
end
