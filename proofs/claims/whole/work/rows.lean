section
-- ===== PART A: goes FIRST, ahead of the names: the tables' words, and 'selects' of the private methods out of them =====
/-- a private method of a class that the tables say can be made, by its rows of tables_1 -/
def lw_okq (q : MethodName × Nat) : Prop := (q.1.cls ≠ "java/lang/invoke/MethodHandle" ∧ q.1.cls ≠ "java/lang/invoke/VarHandle") ∧ Cond.instantiable q.1.cls q.2 ∈ tables_1 ∧ Cond.privateMethod q.1 ∈ tables_1 ∧ Cond.instanceMethod q.1 ∈ tables_1
theorem lw_p0 : lw_okq (⟨"PictureJoin", "isDot", "(III)Z"⟩, 6) := ⟨⟨by decide +kernel, by decide +kernel⟩, List.mem_of_getElem? (i := 14) (by decide +kernel), List.mem_of_getElem? (i := 322) (by decide +kernel), List.mem_of_getElem? (i := 323) (by decide +kernel)⟩
theorem lw_p1 : lw_okq (⟨"PictureJoin", "isPicture", "(I)Z"⟩, 6) := ⟨⟨by decide +kernel, by decide +kernel⟩, List.mem_of_getElem? (i := 14) (by decide +kernel), List.mem_of_getElem? (i := 326) (by decide +kernel), List.mem_of_getElem? (i := 327) (by decide +kernel)⟩
theorem lw_p2 : lw_okq (⟨"PictureJoin$Dots", "changeAbout", "(IIII)I"⟩, 5) := ⟨⟨by decide +kernel, by decide +kernel⟩, List.mem_of_getElem? (i := 48) (by decide +kernel), List.mem_of_getElem? (i := 361) (by decide +kernel), List.mem_of_getElem? (i := 362) (by decide +kernel)⟩
theorem lw_p3 : lw_okq (⟨"PictureJoin$Marks", "insert", "(III)V"⟩, 5) := ⟨⟨by decide +kernel, by decide +kernel⟩, List.mem_of_getElem? (i := 81) (by decide +kernel), List.mem_of_getElem? (i := 392) (by decide +kernel), List.mem_of_getElem? (i := 393) (by decide +kernel)⟩
theorem lw_p4 : lw_okq (⟨"PictureJoin$Pairing", "shiftX", "(LPictureJoin$Marks;ILPictureJoin$Marks;)I"⟩, 5) := ⟨⟨by decide +kernel, by decide +kernel⟩, List.mem_of_getElem? (i := 141) (by decide +kernel), List.mem_of_getElem? (i := 423) (by decide +kernel), List.mem_of_getElem? (i := 424) (by decide +kernel)⟩
theorem lw_p5 : lw_okq (⟨"PictureJoin$Pairing", "shiftY", "(LPictureJoin$Marks;ILPictureJoin$Marks;)I"⟩, 5) := ⟨⟨by decide +kernel, by decide +kernel⟩, List.mem_of_getElem? (i := 141) (by decide +kernel), List.mem_of_getElem? (i := 427) (by decide +kernel), List.mem_of_getElem? (i := 428) (by decide +kernel)⟩
theorem lw_p6 : lw_okq (⟨"PictureJoin$Pairing", "propose", "(LPictureJoin$Marks;LPictureJoin$Marks;II)V"⟩, 5) := ⟨⟨by decide +kernel, by decide +kernel⟩, List.mem_of_getElem? (i := 141) (by decide +kernel), List.mem_of_getElem? (i := 431) (by decide +kernel), List.mem_of_getElem? (i := 432) (by decide +kernel)⟩
theorem lw_p7 : lw_okq (⟨"PictureJoin$Album", "joinAll", "()V"⟩, 6) := ⟨⟨by decide +kernel, by decide +kernel⟩, List.mem_of_getElem? (i := 33) (by decide +kernel), List.mem_of_getElem? (i := 435) (by decide +kernel), List.mem_of_getElem? (i := 436) (by decide +kernel)⟩
theorem lw_p8 : lw_okq (⟨"PictureJoin$Album", "put", "(IIII)V"⟩, 6) := ⟨⟨by decide +kernel, by decide +kernel⟩, List.mem_of_getElem? (i := 33) (by decide +kernel), List.mem_of_getElem? (i := 439) (by decide +kernel), List.mem_of_getElem? (i := 440) (by decide +kernel)⟩
theorem lw_p9 : lw_okq (⟨"PictureJoin$Album", "bestPair", "()I"⟩, 6) := ⟨⟨by decide +kernel, by decide +kernel⟩, List.mem_of_getElem? (i := 33) (by decide +kernel), List.mem_of_getElem? (i := 443) (by decide +kernel), List.mem_of_getElem? (i := 444) (by decide +kernel)⟩
theorem lw_p10 : lw_okq (⟨"PictureJoin", "isMark", "(II)Z"⟩, 6) := ⟨⟨by decide +kernel, by decide +kernel⟩, List.mem_of_getElem? (i := 14) (by decide +kernel), List.mem_of_getElem? (i := 455) (by decide +kernel), List.mem_of_getElem? (i := 456) (by decide +kernel)⟩
theorem lw_p11 : lw_okq (⟨"PictureJoin", "areTwo", "(II)Z"⟩, 6) := ⟨⟨by decide +kernel, by decide +kernel⟩, List.mem_of_getElem? (i := 14) (by decide +kernel), List.mem_of_getElem? (i := 463) (by decide +kernel), List.mem_of_getElem? (i := 464) (by decide +kernel)⟩
theorem lw_p12 : lw_okq (⟨"PictureJoin$Album", "isOpen", "(II)Z"⟩, 6) := ⟨⟨by decide +kernel, by decide +kernel⟩, List.mem_of_getElem? (i := 33) (by decide +kernel), List.mem_of_getElem? (i := 486) (by decide +kernel), List.mem_of_getElem? (i := 487) (by decide +kernel)⟩
theorem lw_p13 : lw_okq (⟨"PictureJoin", "refusalOfTwo", "(IIZ)I"⟩, 6) := ⟨⟨by decide +kernel, by decide +kernel⟩, List.mem_of_getElem? (i := 14) (by decide +kernel), List.mem_of_getElem? (i := 498) (by decide +kernel), List.mem_of_getElem? (i := 499) (by decide +kernel)⟩
theorem lw_p14 : lw_okq (⟨"PictureJoin$Seam", "cheapest", "(IIII)I"⟩, 3) := ⟨⟨by decide +kernel, by decide +kernel⟩, List.mem_of_getElem? (i := 233) (by decide +kernel), List.mem_of_getElem? (i := 548) (by decide +kernel), List.mem_of_getElem? (i := 549) (by decide +kernel)⟩
theorem lw_p15 : lw_okq (⟨"PictureJoin$Seam", "costAt", "(II)I"⟩, 3) := ⟨⟨by decide +kernel, by decide +kernel⟩, List.mem_of_getElem? (i := 233) (by decide +kernel), List.mem_of_getElem? (i := 553) (by decide +kernel), List.mem_of_getElem? (i := 554) (by decide +kernel)⟩
def lw_privs_1 : List (MethodName × Nat) := [(⟨"PictureJoin", "isDot", "(III)Z"⟩, 6), (⟨"PictureJoin", "isPicture", "(I)Z"⟩, 6), (⟨"PictureJoin$Dots", "changeAbout", "(IIII)I"⟩, 5), (⟨"PictureJoin$Marks", "insert", "(III)V"⟩, 5), (⟨"PictureJoin$Pairing", "shiftX", "(LPictureJoin$Marks;ILPictureJoin$Marks;)I"⟩, 5), (⟨"PictureJoin$Pairing", "shiftY", "(LPictureJoin$Marks;ILPictureJoin$Marks;)I"⟩, 5), (⟨"PictureJoin$Pairing", "propose", "(LPictureJoin$Marks;LPictureJoin$Marks;II)V"⟩, 5), (⟨"PictureJoin$Album", "joinAll", "()V"⟩, 6), (⟨"PictureJoin$Album", "put", "(IIII)V"⟩, 6), (⟨"PictureJoin$Album", "bestPair", "()I"⟩, 6), (⟨"PictureJoin", "isMark", "(II)Z"⟩, 6), (⟨"PictureJoin", "areTwo", "(II)Z"⟩, 6), (⟨"PictureJoin$Album", "isOpen", "(II)Z"⟩, 6), (⟨"PictureJoin", "refusalOfTwo", "(IIZ)I"⟩, 6), (⟨"PictureJoin$Seam", "cheapest", "(IIII)I"⟩, 3), (⟨"PictureJoin$Seam", "costAt", "(II)I"⟩, 3)]
theorem lw_r1 : ∀ q ∈ lw_privs_1, lw_okq q := List.forall_mem_cons.mpr ⟨lw_p0, List.forall_mem_cons.mpr ⟨lw_p1, List.forall_mem_cons.mpr ⟨lw_p2, List.forall_mem_cons.mpr ⟨lw_p3, List.forall_mem_cons.mpr ⟨lw_p4, List.forall_mem_cons.mpr ⟨lw_p5, List.forall_mem_cons.mpr ⟨lw_p6, List.forall_mem_cons.mpr ⟨lw_p7, List.forall_mem_cons.mpr ⟨lw_p8, List.forall_mem_cons.mpr ⟨lw_p9, List.forall_mem_cons.mpr ⟨lw_p10, List.forall_mem_cons.mpr ⟨lw_p11, List.forall_mem_cons.mpr ⟨lw_p12, List.forall_mem_cons.mpr ⟨lw_p13, List.forall_mem_cons.mpr ⟨lw_p14, List.forall_mem_cons.mpr ⟨lw_p15, fun _ h => absurd h List.not_mem_nil⟩⟩⟩⟩⟩⟩⟩⟩⟩⟩⟩⟩⟩⟩⟩⟩
theorem lw_p16 : lw_okq (⟨"PictureJoinModel", "lightAt", "(II)I"⟩, 27) := ⟨⟨by decide +kernel, by decide +kernel⟩, List.mem_of_getElem? (i := 587) (by decide +kernel), List.mem_of_getElem? (i := 686) (by decide +kernel), List.mem_of_getElem? (i := 687) (by decide +kernel)⟩
theorem lw_p17 : lw_okq (⟨"PictureJoinModel", "isDot", "(III)Z"⟩, 27) := ⟨⟨by decide +kernel, by decide +kernel⟩, List.mem_of_getElem? (i := 587) (by decide +kernel), List.mem_of_getElem? (i := 706) (by decide +kernel), List.mem_of_getElem? (i := 707) (by decide +kernel)⟩
theorem lw_p18 : lw_okq (⟨"PictureJoinModel", "isPicture", "(I)Z"⟩, 27) := ⟨⟨by decide +kernel, by decide +kernel⟩, List.mem_of_getElem? (i := 587) (by decide +kernel), List.mem_of_getElem? (i := 710) (by decide +kernel), List.mem_of_getElem? (i := 711) (by decide +kernel)⟩
theorem lw_p19 : lw_okq (⟨"PictureJoinModel", "dotAt", "(III)I"⟩, 27) := ⟨⟨by decide +kernel, by decide +kernel⟩, List.mem_of_getElem? (i := 587) (by decide +kernel), List.mem_of_getElem? (i := 716) (by decide +kernel), List.mem_of_getElem? (i := 717) (by decide +kernel)⟩
theorem lw_p20 : lw_okq (⟨"PictureJoinModel", "scoreOf", "(III)I"⟩, 27) := ⟨⟨by decide +kernel, by decide +kernel⟩, List.mem_of_getElem? (i := 587) (by decide +kernel), List.mem_of_getElem? (i := 733) (by decide +kernel), List.mem_of_getElem? (i := 734) (by decide +kernel)⟩
theorem lw_p21 : lw_okq (⟨"PictureJoinModel", "lay", "()V"⟩, 27) := ⟨⟨by decide +kernel, by decide +kernel⟩, List.mem_of_getElem? (i := 587) (by decide +kernel), List.mem_of_getElem? (i := 741) (by decide +kernel), List.mem_of_getElem? (i := 742) (by decide +kernel)⟩
theorem lw_p22 : lw_okq (⟨"PictureJoinModel", "layMarks", "(I)V"⟩, 27) := ⟨⟨by decide +kernel, by decide +kernel⟩, List.mem_of_getElem? (i := 587) (by decide +kernel), List.mem_of_getElem? (i := 745) (by decide +kernel), List.mem_of_getElem? (i := 746) (by decide +kernel)⟩
theorem lw_p23 : lw_okq (⟨"PictureJoinModel", "isMark", "(III)Z"⟩, 27) := ⟨⟨by decide +kernel, by decide +kernel⟩, List.mem_of_getElem? (i := 587) (by decide +kernel), List.mem_of_getElem? (i := 749) (by decide +kernel), List.mem_of_getElem? (i := 750) (by decide +kernel)⟩
theorem lw_p24 : lw_okq (⟨"PictureJoinModel", "putMark", "(II)V"⟩, 27) := ⟨⟨by decide +kernel, by decide +kernel⟩, List.mem_of_getElem? (i := 587) (by decide +kernel), List.mem_of_getElem? (i := 753) (by decide +kernel), List.mem_of_getElem? (i := 754) (by decide +kernel)⟩
theorem lw_p25 : lw_okq (⟨"PictureJoinModel", "signOf", "(III)I"⟩, 27) := ⟨⟨by decide +kernel, by decide +kernel⟩, List.mem_of_getElem? (i := 587) (by decide +kernel), List.mem_of_getElem? (i := 757) (by decide +kernel), List.mem_of_getElem? (i := 758) (by decide +kernel)⟩
theorem lw_p26 : lw_okq (⟨"PictureJoinModel", "layPair", "(II)V"⟩, 27) := ⟨⟨by decide +kernel, by decide +kernel⟩, List.mem_of_getElem? (i := 587) (by decide +kernel), List.mem_of_getElem? (i := 761) (by decide +kernel), List.mem_of_getElem? (i := 762) (by decide +kernel)⟩
theorem lw_p27 : lw_okq (⟨"PictureJoinModel", "nearest", "(III)I"⟩, 27) := ⟨⟨by decide +kernel, by decide +kernel⟩, List.mem_of_getElem? (i := 587) (by decide +kernel), List.mem_of_getElem? (i := 765) (by decide +kernel), List.mem_of_getElem? (i := 766) (by decide +kernel)⟩
theorem lw_p28 : lw_okq (⟨"PictureJoinModel", "distance", "(IIII)I"⟩, 27) := ⟨⟨by decide +kernel, by decide +kernel⟩, List.mem_of_getElem? (i := 587) (by decide +kernel), List.mem_of_getElem? (i := 769) (by decide +kernel), List.mem_of_getElem? (i := 770) (by decide +kernel)⟩
theorem lw_p29 : lw_okq (⟨"PictureJoinModel", "markX", "(II)I"⟩, 27) := ⟨⟨by decide +kernel, by decide +kernel⟩, List.mem_of_getElem? (i := 587) (by decide +kernel), List.mem_of_getElem? (i := 776) (by decide +kernel), List.mem_of_getElem? (i := 777) (by decide +kernel)⟩
theorem lw_p30 : lw_okq (⟨"PictureJoinModel", "markY", "(II)I"⟩, 27) := ⟨⟨by decide +kernel, by decide +kernel⟩, List.mem_of_getElem? (i := 587) (by decide +kernel), List.mem_of_getElem? (i := 780) (by decide +kernel), List.mem_of_getElem? (i := 781) (by decide +kernel)⟩
theorem lw_p31 : lw_okq (⟨"PictureJoinModel", "votesFor", "(IIII)I"⟩, 27) := ⟨⟨by decide +kernel, by decide +kernel⟩, List.mem_of_getElem? (i := 587) (by decide +kernel), List.mem_of_getElem? (i := 784) (by decide +kernel), List.mem_of_getElem? (i := 785) (by decide +kernel)⟩
def lw_privs_2 : List (MethodName × Nat) := [(⟨"PictureJoinModel", "lightAt", "(II)I"⟩, 27), (⟨"PictureJoinModel", "isDot", "(III)Z"⟩, 27), (⟨"PictureJoinModel", "isPicture", "(I)Z"⟩, 27), (⟨"PictureJoinModel", "dotAt", "(III)I"⟩, 27), (⟨"PictureJoinModel", "scoreOf", "(III)I"⟩, 27), (⟨"PictureJoinModel", "lay", "()V"⟩, 27), (⟨"PictureJoinModel", "layMarks", "(I)V"⟩, 27), (⟨"PictureJoinModel", "isMark", "(III)Z"⟩, 27), (⟨"PictureJoinModel", "putMark", "(II)V"⟩, 27), (⟨"PictureJoinModel", "signOf", "(III)I"⟩, 27), (⟨"PictureJoinModel", "layPair", "(II)V"⟩, 27), (⟨"PictureJoinModel", "nearest", "(III)I"⟩, 27), (⟨"PictureJoinModel", "distance", "(IIII)I"⟩, 27), (⟨"PictureJoinModel", "markX", "(II)I"⟩, 27), (⟨"PictureJoinModel", "markY", "(II)I"⟩, 27), (⟨"PictureJoinModel", "votesFor", "(IIII)I"⟩, 27)]
theorem lw_r2 : ∀ q ∈ lw_privs_2, lw_okq q := List.forall_mem_cons.mpr ⟨lw_p16, List.forall_mem_cons.mpr ⟨lw_p17, List.forall_mem_cons.mpr ⟨lw_p18, List.forall_mem_cons.mpr ⟨lw_p19, List.forall_mem_cons.mpr ⟨lw_p20, List.forall_mem_cons.mpr ⟨lw_p21, List.forall_mem_cons.mpr ⟨lw_p22, List.forall_mem_cons.mpr ⟨lw_p23, List.forall_mem_cons.mpr ⟨lw_p24, List.forall_mem_cons.mpr ⟨lw_p25, List.forall_mem_cons.mpr ⟨lw_p26, List.forall_mem_cons.mpr ⟨lw_p27, List.forall_mem_cons.mpr ⟨lw_p28, List.forall_mem_cons.mpr ⟨lw_p29, List.forall_mem_cons.mpr ⟨lw_p30, List.forall_mem_cons.mpr ⟨lw_p31, fun _ h => absurd h List.not_mem_nil⟩⟩⟩⟩⟩⟩⟩⟩⟩⟩⟩⟩⟩⟩⟩⟩
theorem lw_p32 : lw_okq (⟨"PictureJoinModel", "layPlaces", "()V"⟩, 27) := ⟨⟨by decide +kernel, by decide +kernel⟩, List.mem_of_getElem? (i := 587) (by decide +kernel), List.mem_of_getElem? (i := 788) (by decide +kernel), List.mem_of_getElem? (i := 789) (by decide +kernel)⟩
theorem lw_p33 : lw_okq (⟨"PictureJoinModel", "hasMark", "(II)Z"⟩, 27) := ⟨⟨by decide +kernel, by decide +kernel⟩, List.mem_of_getElem? (i := 587) (by decide +kernel), List.mem_of_getElem? (i := 796) (by decide +kernel), List.mem_of_getElem? (i := 797) (by decide +kernel)⟩
theorem lw_p34 : lw_okq (⟨"PictureJoinModel", "arePair", "(II)Z"⟩, 27) := ⟨⟨by decide +kernel, by decide +kernel⟩, List.mem_of_getElem? (i := 587) (by decide +kernel), List.mem_of_getElem? (i := 808) (by decide +kernel), List.mem_of_getElem? (i := 809) (by decide +kernel)⟩
theorem lw_p35 : lw_okq (⟨"PictureJoinModel", "barsOverlap", "(IIZ)I"⟩, 27) := ⟨⟨by decide +kernel, by decide +kernel⟩, List.mem_of_getElem? (i := 587) (by decide +kernel), List.mem_of_getElem? (i := 829) (by decide +kernel), List.mem_of_getElem? (i := 830) (by decide +kernel)⟩
theorem lw_p36 : lw_okq (⟨"PictureJoinModel", "layOverlap", "(II)V"⟩, 27) := ⟨⟨by decide +kernel, by decide +kernel⟩, List.mem_of_getElem? (i := 587) (by decide +kernel), List.mem_of_getElem? (i := 833) (by decide +kernel), List.mem_of_getElem? (i := 834) (by decide +kernel)⟩
theorem lw_p37 : lw_okq (⟨"PictureJoinModel", "dotOver", "(III)I"⟩, 27) := ⟨⟨by decide +kernel, by decide +kernel⟩, List.mem_of_getElem? (i := 587) (by decide +kernel), List.mem_of_getElem? (i := 842) (by decide +kernel), List.mem_of_getElem? (i := 843) (by decide +kernel)⟩
theorem lw_p38 : lw_okq (⟨"PictureJoinModel", "below", "(II)I"⟩, 27) := ⟨⟨by decide +kernel, by decide +kernel⟩, List.mem_of_getElem? (i := 587) (by decide +kernel), List.mem_of_getElem? (i := 850) (by decide +kernel), List.mem_of_getElem? (i := 851) (by decide +kernel)⟩
theorem lw_p39 : lw_okq (⟨"PictureJoinModel", "leastAt", "(II)I"⟩, 27) := ⟨⟨by decide +kernel, by decide +kernel⟩, List.mem_of_getElem? (i := 587) (by decide +kernel), List.mem_of_getElem? (i := 854) (by decide +kernel), List.mem_of_getElem? (i := 855) (by decide +kernel)⟩
theorem lw_p40 : lw_okq (⟨"PictureJoinModel", "pictureAt", "(II)I"⟩, 27) := ⟨⟨by decide +kernel, by decide +kernel⟩, List.mem_of_getElem? (i := 587) (by decide +kernel), List.mem_of_getElem? (i := 862) (by decide +kernel), List.mem_of_getElem? (i := 863) (by decide +kernel)⟩
theorem lw_p41 : lw_okq (⟨"PictureJoinModel", "edge", "(I)I"⟩, 27) := ⟨⟨by decide +kernel, by decide +kernel⟩, List.mem_of_getElem? (i := 587) (by decide +kernel), List.mem_of_getElem? (i := 870) (by decide +kernel), List.mem_of_getElem? (i := 871) (by decide +kernel)⟩
def lw_privs_3 : List (MethodName × Nat) := [(⟨"PictureJoinModel", "layPlaces", "()V"⟩, 27), (⟨"PictureJoinModel", "hasMark", "(II)Z"⟩, 27), (⟨"PictureJoinModel", "arePair", "(II)Z"⟩, 27), (⟨"PictureJoinModel", "barsOverlap", "(IIZ)I"⟩, 27), (⟨"PictureJoinModel", "layOverlap", "(II)V"⟩, 27), (⟨"PictureJoinModel", "dotOver", "(III)I"⟩, 27), (⟨"PictureJoinModel", "below", "(II)I"⟩, 27), (⟨"PictureJoinModel", "leastAt", "(II)I"⟩, 27), (⟨"PictureJoinModel", "pictureAt", "(II)I"⟩, 27), (⟨"PictureJoinModel", "edge", "(I)I"⟩, 27)]
theorem lw_r3 : ∀ q ∈ lw_privs_3, lw_okq q := List.forall_mem_cons.mpr ⟨lw_p32, List.forall_mem_cons.mpr ⟨lw_p33, List.forall_mem_cons.mpr ⟨lw_p34, List.forall_mem_cons.mpr ⟨lw_p35, List.forall_mem_cons.mpr ⟨lw_p36, List.forall_mem_cons.mpr ⟨lw_p37, List.forall_mem_cons.mpr ⟨lw_p38, List.forall_mem_cons.mpr ⟨lw_p39, List.forall_mem_cons.mpr ⟨lw_p40, List.forall_mem_cons.mpr ⟨lw_p41, fun _ h => absurd h List.not_mem_nil⟩⟩⟩⟩⟩⟩⟩⟩⟩⟩
def lw_privs : List (MethodName × Nat) := lw_privs_1 ++ (lw_privs_2 ++ (lw_privs_3))
def lw_tbl : List Cond := k2_sels lw_privs ++ tables_1
theorem lw_privs_ok : ∀ q ∈ lw_privs, lw_okq q := by
  show ∀ q ∈ lw_privs_1 ++ (lw_privs_2 ++ (lw_privs_3)), lw_okq q
  exact List.forall_mem_append.mpr ⟨lw_r1, List.forall_mem_append.mpr ⟨lw_r2, lw_r3⟩⟩
-- ===== end of PART A; then your names; then what follows =====
end
section
def RX0 : String := "PictureJoin$Album"
def TX0 : u_T := fun k => match k with
  | 0 => ("PictureJoin$Album", "pictures", "[LPictureJoin$Picture;", true)
  | 1 => ("PictureJoin$Album", "pairings", "[LPictureJoin$Pairing;", true)
  | 2 => ("PictureJoin$Album", "order", "[I", true)
  | 3 => ("PictureJoin$Album", "count", "I", false)
  | 4 => ("PictureJoin$Album", "joinedCount", "I", false)
  | _ => ("PictureJoin$Album", "stale", "Z", false)
def tyX0 : Nat → FieldType := fun k => match k with
  | 0 => .array (.object "PictureJoin$Picture")
  | 1 => .array (.object "PictureJoin$Pairing")
  | 2 => .array .int
  | 3 => .int
  | 4 => .int
  | _ => .boolean
abbrev wsX00 : List Cond := u_ws RX0 TX0 6
theorem nmX0 : ∀ a, a < 6 → ∀ b, b < 6 → a ≠ b → (TX0 a).2.1 ≠ (TX0 b).2.1 := by decide +kernel
theorem tyX0_ok : ∀ k, k < 6 → parseFieldDescriptor (TX0 k).2.2.1 = some (tyX0 k) := by decide +kernel
abbrev cX0_init : ByteArray := prog_2_method_1_code
def yX0_init : MethodName := ⟨RX0, "<init>", "()V"⟩
abbrev cX0_pairingOf : ByteArray := prog_2_method_2_code
def yX0_pairingOf : MethodName := ⟨RX0, "pairingOf", "(II)LPictureJoin$Pairing;"⟩
abbrev cX0_settle : ByteArray := prog_2_method_3_code
def yX0_settle : MethodName := ⟨RX0, "settle", "(II)V"⟩
abbrev cX0_joinAll : ByteArray := prog_2_method_4_code
def yX0_joinAll : MethodName := ⟨RX0, "joinAll", "()V"⟩
abbrev cX0_put : ByteArray := prog_2_method_5_code
def yX0_put : MethodName := ⟨RX0, "put", "(IIII)V"⟩
abbrev cX0_bestPair : ByteArray := prog_2_method_6_code
def yX0_bestPair : MethodName := ⟨RX0, "bestPair", "()I"⟩
abbrev cX0_countOpen : ByteArray := prog_2_method_7_code
def yX0_countOpen : MethodName := ⟨RX0, "countOpen", "()I"⟩
abbrev cX0_isOpen : ByteArray := prog_2_method_8_code
def yX0_isOpen : MethodName := ⟨RX0, "isOpen", "(II)Z"⟩
abbrev cX0_firstAt : ByteArray := prog_2_method_9_code
def yX0_firstAt : MethodName := ⟨RX0, "firstAt", "(II)I"⟩
abbrev cX0_edge : ByteArray := prog_2_method_10_code
def yX0_edge : MethodName := ⟨RX0, "edge", "(I)I"⟩
abbrev cX0_countPlaces : ByteArray := prog_2_method_11_code
def yX0_countPlaces : MethodName := ⟨RX0, "countPlaces", "()I"⟩
def RX1 : String := "PictureJoin$Dots"
def TX1 : u_T := fun k => match k with
  | 0 => ("PictureJoin$Dots", "values", "[I", true)
  | 1 => ("PictureJoin$Dots", "scores", "[I", true)
  | 2 => ("PictureJoin$Dots", "width", "I", false)
  | 3 => ("PictureJoin$Dots", "height", "I", false)
  | _ => ("PictureJoin$Dots", "changed", "Z", false)
def tyX1 : Nat → FieldType := fun k => match k with
  | 0 => .array .int
  | 1 => .array .int
  | 2 => .int
  | 3 => .int
  | _ => .boolean
abbrev wsX10 : List Cond := u_ws RX1 TX1 5
theorem nmX1 : ∀ a, a < 5 → ∀ b, b < 5 → a ≠ b → (TX1 a).2.1 ≠ (TX1 b).2.1 := by decide +kernel
theorem tyX1_ok : ∀ k, k < 5 → parseFieldDescriptor (TX1 k).2.2.1 = some (tyX1 k) := by decide +kernel
abbrev cX1_init : ByteArray := prog_3_method_1_code
def yX1_init : MethodName := ⟨RX1, "<init>", "()V"⟩
abbrev cX1_resize : ByteArray := prog_3_method_2_code
def yX1_resize : MethodName := ⟨RX1, "resize", "(II)V"⟩
abbrev cX1_has : ByteArray := prog_3_method_3_code
def yX1_has : MethodName := ⟨RX1, "has", "(II)Z"⟩
abbrev cX1_get : ByteArray := prog_3_method_4_code
def yX1_get : MethodName := ⟨RX1, "get", "(II)I"⟩
abbrev cX1_put : ByteArray := prog_3_method_5_code
def yX1_put : MethodName := ⟨RX1, "put", "(III)V"⟩
abbrev cX1_scoreOf : ByteArray := prog_3_method_6_code
def yX1_scoreOf : MethodName := ⟨RX1, "scoreOf", "(II)I"⟩
abbrev cX1_changeAbout : ByteArray := prog_3_method_7_code
def yX1_changeAbout : MethodName := ⟨RX1, "changeAbout", "(IIII)I"⟩
abbrev cX1_scoreAll : ByteArray := prog_3_method_8_code
def yX1_scoreAll : MethodName := ⟨RX1, "scoreAll", "()V"⟩
abbrev cX1_keptScore : ByteArray := prog_3_method_9_code
def yX1_keptScore : MethodName := ⟨RX1, "keptScore", "(II)I"⟩
abbrev cX1_isPeak : ByteArray := prog_3_method_10_code
def yX1_isPeak : MethodName := ⟨RX1, "isPeak", "(II)Z"⟩
abbrev cX1_signOf : ByteArray := prog_3_method_11_code
def yX1_signOf : MethodName := ⟨RX1, "signOf", "(II)I"⟩
def RX2 : String := "PictureJoin$Marks"
def TX2 : u_T := fun k => match k with
  | 0 => ("PictureJoin$Marks", "columns", "[I", true)
  | 1 => ("PictureJoin$Marks", "rows", "[I", true)
  | 2 => ("PictureJoin$Marks", "heights", "[I", true)
  | 3 => ("PictureJoin$Marks", "signs", "[I", true)
  | _ => ("PictureJoin$Marks", "count", "I", false)
def tyX2 : Nat → FieldType := fun k => match k with
  | 0 => .array .int
  | 1 => .array .int
  | 2 => .array .int
  | 3 => .array .int
  | _ => .int
abbrev wsX20 : List Cond := u_ws RX2 TX2 5
theorem nmX2 : ∀ a, a < 5 → ∀ b, b < 5 → a ≠ b → (TX2 a).2.1 ≠ (TX2 b).2.1 := by decide +kernel
theorem tyX2_ok : ∀ k, k < 5 → parseFieldDescriptor (TX2 k).2.2.1 = some (tyX2 k) := by decide +kernel
abbrev cX2_init : ByteArray := prog_4_method_1_code
def yX2_init : MethodName := ⟨RX2, "<init>", "()V"⟩
abbrev cX2_find : ByteArray := prog_4_method_2_code
def yX2_find : MethodName := ⟨RX2, "find", "(LPictureJoin$Dots;I)V"⟩
abbrev cX2_insert : ByteArray := prog_4_method_3_code
def yX2_insert : MethodName := ⟨RX2, "insert", "(III)V"⟩
abbrev cX2_nearestTo : ByteArray := prog_4_method_4_code
def yX2_nearestTo : MethodName := ⟨RX2, "nearestTo", "(I)I"⟩
def RX3 : String := "PictureJoin$Overlap"
def TX3 : u_T := fun k => match k with
  | 0 => ("PictureJoin$Overlap", "x", "I", false)
  | 1 => ("PictureJoin$Overlap", "y", "I", false)
  | 2 => ("PictureJoin$Overlap", "width", "I", false)
  | 3 => ("PictureJoin$Overlap", "height", "I", false)
  | 4 => ("PictureJoin$Overlap", "firstLight", "I", false)
  | 5 => ("PictureJoin$Overlap", "secondLight", "I", false)
  | _ => ("PictureJoin$Overlap", "bothTold", "I", false)
def tyX3 : Nat → FieldType := fun k => match k with
  | 0 => .int
  | 1 => .int
  | 2 => .int
  | 3 => .int
  | 4 => .int
  | 5 => .int
  | _ => .int
abbrev wsX30 : List Cond := u_ws RX3 TX3 7
theorem nmX3 : ∀ a, a < 7 → ∀ b, b < 7 → a ≠ b → (TX3 a).2.1 ≠ (TX3 b).2.1 := by decide +kernel
theorem tyX3_ok : ∀ k, k < 7 → parseFieldDescriptor (TX3 k).2.2.1 = some (tyX3 k) := by decide +kernel
abbrev cX3_init : ByteArray := prog_5_method_1_code
def yX3_init : MethodName := ⟨RX3, "<init>", "()V"⟩
abbrev cX3_find : ByteArray := prog_5_method_2_code
def yX3_find : MethodName := ⟨RX3, "find", "(LPictureJoin$Picture;LPictureJoin$Picture;)V"⟩
abbrev cX3_isThere : ByteArray := prog_5_method_3_code
def yX3_isThere : MethodName := ⟨RX3, "isThere", "()Z"⟩
abbrev cX3_compare : ByteArray := prog_5_method_4_code
def yX3_compare : MethodName := ⟨RX3, "compare", "(LPictureJoin$Picture;LPictureJoin$Picture;)V"⟩
def RX4 : String := "PictureJoin$Pairing"
def TX4 : u_T := fun k => match k with
  | 0 => ("PictureJoin$Pairing", "partners", "[I", true)
  | 1 => ("PictureJoin$Pairing", "matches", "I", false)
  | 2 => ("PictureJoin$Pairing", "votes", "I", false)
  | 3 => ("PictureJoin$Pairing", "x", "I", false)
  | _ => ("PictureJoin$Pairing", "y", "I", false)
def tyX4 : Nat → FieldType := fun k => match k with
  | 0 => .array .int
  | 1 => .int
  | 2 => .int
  | 3 => .int
  | _ => .int
abbrev wsX40 : List Cond := u_ws RX4 TX4 5
theorem nmX4 : ∀ a, a < 5 → ∀ b, b < 5 → a ≠ b → (TX4 a).2.1 ≠ (TX4 b).2.1 := by decide +kernel
theorem tyX4_ok : ∀ k, k < 5 → parseFieldDescriptor (TX4 k).2.2.1 = some (tyX4 k) := by decide +kernel
abbrev cX4_init : ByteArray := prog_6_method_1_code
def yX4_init : MethodName := ⟨RX4, "<init>", "()V"⟩
abbrev cX4_find : ByteArray := prog_6_method_2_code
def yX4_find : MethodName := ⟨RX4, "find", "(LPictureJoin$Marks;LPictureJoin$Marks;I)V"⟩
abbrev cX4_partnerOf : ByteArray := prog_6_method_3_code
def yX4_partnerOf : MethodName := ⟨RX4, "partnerOf", "(LPictureJoin$Marks;ILPictureJoin$Marks;I)I"⟩
abbrev cX4_shiftX : ByteArray := prog_6_method_4_code
def yX4_shiftX : MethodName := ⟨RX4, "shiftX", "(LPictureJoin$Marks;ILPictureJoin$Marks;)I"⟩
abbrev cX4_shiftY : ByteArray := prog_6_method_5_code
def yX4_shiftY : MethodName := ⟨RX4, "shiftY", "(LPictureJoin$Marks;ILPictureJoin$Marks;)I"⟩
abbrev cX4_propose : ByteArray := prog_6_method_6_code
def yX4_propose : MethodName := ⟨RX4, "propose", "(LPictureJoin$Marks;LPictureJoin$Marks;II)V"⟩
def RX5 : String := "PictureJoin$Picture"
def TX5 : u_T := fun k => match k with
  | 0 => ("PictureJoin$Picture", "dots", "LPictureJoin$Dots;", true)
  | 1 => ("PictureJoin$Picture", "marks", "LPictureJoin$Marks;", true)
  | 2 => ("PictureJoin$Picture", "x", "I", false)
  | 3 => ("PictureJoin$Picture", "y", "I", false)
  | 4 => ("PictureJoin$Picture", "joiner", "I", false)
  | _ => ("PictureJoin$Picture", "rank", "I", false)
def tyX5 : Nat → FieldType := fun k => match k with
  | 0 => .object "PictureJoin$Dots"
  | 1 => .object "PictureJoin$Marks"
  | 2 => .int
  | 3 => .int
  | 4 => .int
  | _ => .int
abbrev wsX50 : List Cond := u_ws RX5 TX5 6
theorem nmX5 : ∀ a, a < 6 → ∀ b, b < 6 → a ≠ b → (TX5 a).2.1 ≠ (TX5 b).2.1 := by decide +kernel
theorem tyX5_ok : ∀ k, k < 6 → parseFieldDescriptor (TX5 k).2.2.1 = some (tyX5 k) := by decide +kernel
abbrev cX5_init : ByteArray := prog_7_method_1_code
def yX5_init : MethodName := ⟨RX5, "<init>", "()V"⟩
abbrev cX5_isJoined : ByteArray := prog_7_method_2_code
def yX5_isJoined : MethodName := ⟨RX5, "isJoined", "()Z"⟩
abbrev cX5_dotAt : ByteArray := prog_7_method_3_code
def yX5_dotAt : MethodName := ⟨RX5, "dotAt", "(II)I"⟩
abbrev cX5_edge : ByteArray := prog_7_method_4_code
def yX5_edge : MethodName := ⟨RX5, "edge", "(I)I"⟩
def RX6 : String := "PictureJoin$Seam"
def TX6 : u_T := fun k => match k with
  | 0 => ("PictureJoin$Seam", "costs", "[I", true)
  | 1 => ("PictureJoin$Seam", "columns", "[I", true)
  | _ => ("PictureJoin$Seam", "cost", "I", false)
def tyX6 : Nat → FieldType := fun k => match k with
  | 0 => .array .int
  | 1 => .array .int
  | _ => .int
abbrev wsX60 : List Cond := u_ws RX6 TX6 3
theorem nmX6 : ∀ a, a < 3 → ∀ b, b < 3 → a ≠ b → (TX6 a).2.1 ≠ (TX6 b).2.1 := by decide +kernel
theorem tyX6_ok : ∀ k, k < 3 → parseFieldDescriptor (TX6 k).2.2.1 = some (tyX6 k) := by decide +kernel
abbrev cX6_init : ByteArray := prog_8_method_1_code
def yX6_init : MethodName := ⟨RX6, "<init>", "()V"⟩
abbrev cX6_find : ByteArray := prog_8_method_2_code
def yX6_find : MethodName := ⟨RX6, "find", "(LPictureJoin$Overlap;LPictureJoin$Picture;LPictureJoin$Picture;)V"⟩
abbrev cX6_unlikeness : ByteArray := prog_8_method_3_code
def yX6_unlikeness : MethodName := ⟨RX6, "unlikeness", "(LPictureJoin$Picture;LPictureJoin$Picture;II)I"⟩
abbrev cX6_costAt : ByteArray := prog_8_method_4_code
def yX6_costAt : MethodName := ⟨RX6, "costAt", "(II)I"⟩
abbrev cX6_cheapest : ByteArray := prog_8_method_5_code
def yX6_cheapest : MethodName := ⟨RX6, "cheapest", "(IIII)I"⟩
def RX7 : String := "PictureJoin$World"
def TX7 : u_T := fun k => match k with
  | _ => ("PictureJoin$World", "seed", "I", false)
def tyX7 : Nat → FieldType := fun k => match k with
  | _ => .int
abbrev wsX70 : List Cond := u_ws RX7 TX7 1
theorem nmX7 : ∀ a, a < 1 → ∀ b, b < 1 → a ≠ b → (TX7 a).2.1 ≠ (TX7 b).2.1 := by decide +kernel
theorem tyX7_ok : ∀ k, k < 1 → parseFieldDescriptor (TX7 k).2.2.1 = some (tyX7 k) := by decide +kernel
abbrev cX7_init : ByteArray := prog_9_method_1_code
def yX7_init : MethodName := ⟨RX7, "<init>", "()V"⟩
abbrev cX7_lightAt : ByteArray := prog_9_method_2_code
def yX7_lightAt : MethodName := ⟨RX7, "lightAt", "(II)I"⟩
abbrev cX7_shootInto : ByteArray := prog_9_method_3_code
def yX7_shootInto : MethodName := ⟨RX7, "shootInto", "(LPictureJoin$Dots;III)V"⟩
def RX8 : String := "PictureJoin"
def TX8 : u_T := fun k => match k with
  | 0 => ("PictureJoin", "world", "LPictureJoin$World;", true)
  | 1 => ("PictureJoin", "album", "LPictureJoin$Album;", true)
  | 2 => ("PictureJoin", "common", "LPictureJoin$Overlap;", true)
  | 3 => ("PictureJoin", "cut", "LPictureJoin$Seam;", true)
  | 4 => ("PictureJoin", "bar", "I", false)
  | _ => ("PictureJoin", "near", "I", false)
def tyX8 : Nat → FieldType := fun k => match k with
  | 0 => .object "PictureJoin$World"
  | 1 => .object "PictureJoin$Album"
  | 2 => .object "PictureJoin$Overlap"
  | 3 => .object "PictureJoin$Seam"
  | 4 => .int
  | _ => .int
abbrev wsX80 : List Cond := u_ws RX8 TX8 6
theorem nmX8 : ∀ a, a < 6 → ∀ b, b < 6 → a ≠ b → (TX8 a).2.1 ≠ (TX8 b).2.1 := by decide +kernel
theorem tyX8_ok : ∀ k, k < 6 → parseFieldDescriptor (TX8 k).2.2.1 = some (tyX8 k) := by decide +kernel
abbrev cX8_init : ByteArray := prog_1_method_1_code
def yX8_init : MethodName := ⟨RX8, "<init>", "()V"⟩
abbrev cX8_seed : ByteArray := prog_1_method_2_code
def yX8_seed : MethodName := ⟨RX8, "seed", "(I)I"⟩
abbrev cX8_light : ByteArray := prog_1_method_3_code
def yX8_light : MethodName := ⟨RX8, "light", "(II)I"⟩
abbrev cX8_shoot : ByteArray := prog_1_method_4_code
def yX8_shoot : MethodName := ⟨RX8, "shoot", "(IIIII)I"⟩
abbrev cX8_clear : ByteArray := prog_1_method_5_code
def yX8_clear : MethodName := ⟨RX8, "clear", "()I"⟩
abbrev cX8_dot : ByteArray := prog_1_method_6_code
def yX8_dot : MethodName := ⟨RX8, "dot", "(IIII)I"⟩
abbrev cX8_at : ByteArray := prog_1_method_7_code
def yX8_at : MethodName := ⟨RX8, "at", "(III)I"⟩
abbrev cX8_rules : ByteArray := prog_1_method_8_code
def yX8_rules : MethodName := ⟨RX8, "rules", "(II)I"⟩
abbrev cX8_score : ByteArray := prog_1_method_9_code
def yX8_score : MethodName := ⟨RX8, "score", "(III)I"⟩
abbrev cX8_marks : ByteArray := prog_1_method_10_code
def yX8_marks : MethodName := ⟨RX8, "marks", "(I)I"⟩
abbrev cX8_mark : ByteArray := prog_1_method_11_code
def yX8_mark : MethodName := ⟨RX8, "mark", "(III)I"⟩
abbrev cX8_match : ByteArray := prog_1_method_12_code
def yX8_match : MethodName := ⟨RX8, "match", "(III)I"⟩
abbrev cX8_shift : ByteArray := prog_1_method_13_code
def yX8_shift : MethodName := ⟨RX8, "shift", "(III)I"⟩
abbrev cX8_place : ByteArray := prog_1_method_14_code
def yX8_place : MethodName := ⟨RX8, "place", "(II)I"⟩
abbrev cX8_open : ByteArray := prog_1_method_15_code
def yX8_open : MethodName := ⟨RX8, "open", "()I"⟩
abbrev cX8_joined : ByteArray := prog_1_method_16_code
def yX8_joined : MethodName := ⟨RX8, "joined", "()I"⟩
abbrev cX8_overlap : ByteArray := prog_1_method_17_code
def yX8_overlap : MethodName := ⟨RX8, "overlap", "(III)I"⟩
abbrev cX8_lights : ByteArray := prog_1_method_18_code
def yX8_lights : MethodName := ⟨RX8, "lights", "(III)I"⟩
abbrev cX8_seam : ByteArray := prog_1_method_19_code
def yX8_seam : MethodName := ⟨RX8, "seam", "(III)I"⟩
abbrev cX8_whole : ByteArray := prog_1_method_20_code
def yX8_whole : MethodName := ⟨RX8, "whole", "(III)I"⟩
abbrev cX8_extent : ByteArray := prog_1_method_21_code
def yX8_extent : MethodName := ⟨RX8, "extent", "(I)I"⟩
abbrev cX8_told : ByteArray := prog_1_method_22_code
def yX8_told : MethodName := ⟨RX8, "told", "(I)I"⟩
abbrev cX8_within : ByteArray := prog_1_method_23_code
def yX8_within : MethodName := ⟨RX8, "within", "(III)Z"⟩
abbrev cX8_isPicture : ByteArray := prog_1_method_24_code
def yX8_isPicture : MethodName := ⟨RX8, "isPicture", "(I)Z"⟩
abbrev cX8_isDot : ByteArray := prog_1_method_25_code
def yX8_isDot : MethodName := ⟨RX8, "isDot", "(III)Z"⟩
abbrev cX8_isMark : ByteArray := prog_1_method_26_code
def yX8_isMark : MethodName := ⟨RX8, "isMark", "(II)Z"⟩
abbrev cX8_areTwo : ByteArray := prog_1_method_27_code
def yX8_areTwo : MethodName := ⟨RX8, "areTwo", "(II)Z"⟩
abbrev cX8_refusalOfTwo : ByteArray := prog_1_method_28_code
def yX8_refusalOfTwo : MethodName := ⟨RX8, "refusalOfTwo", "(IIZ)I"⟩
def RX9 : String := "PictureJoinModel"
def TX9 : u_T := fun k => match k with
  | 0 => ("PictureJoinModel", "seed", "I", false)
  | 1 => ("PictureJoinModel", "pictures", "I", false)
  | 2 => ("PictureJoinModel", "wide", "[I", true)
  | 3 => ("PictureJoinModel", "high", "[I", true)
  | 4 => ("PictureJoinModel", "dots", "[I", true)
  | 5 => ("PictureJoinModel", "bar", "I", false)
  | 6 => ("PictureJoinModel", "near", "I", false)
  | 7 => ("PictureJoinModel", "isLaid", "Z", false)
  | 8 => ("PictureJoinModel", "score", "[I", true)
  | 9 => ("PictureJoinModel", "marks", "[I", true)
  | 10 => ("PictureJoinModel", "markAt", "[I", true)
  | 11 => ("PictureJoinModel", "sign", "[I", true)
  | 12 => ("PictureJoinModel", "match", "[I", true)
  | 13 => ("PictureJoinModel", "shiftX", "[I", true)
  | 14 => ("PictureJoinModel", "shiftY", "[I", true)
  | 15 => ("PictureJoinModel", "votes", "[I", true)
  | 16 => ("PictureJoinModel", "matches", "[I", true)
  | 17 => ("PictureJoinModel", "joined", "I", false)
  | 18 => ("PictureJoinModel", "placeX", "[I", true)
  | 19 => ("PictureJoinModel", "placeY", "[I", true)
  | 20 => ("PictureJoinModel", "by", "[I", true)
  | 21 => ("PictureJoinModel", "order", "[I", true)
  | 22 => ("PictureJoinModel", "overX", "I", false)
  | 23 => ("PictureJoinModel", "overY", "I", false)
  | 24 => ("PictureJoinModel", "overWide", "I", false)
  | 25 => ("PictureJoinModel", "overHigh", "I", false)
  | _ => ("PictureJoinModel", "least", "[I", true)
def tyX9 : Nat → FieldType := fun k => match k with
  | 0 => .int
  | 1 => .int
  | 2 => .array .int
  | 3 => .array .int
  | 4 => .array .int
  | 5 => .int
  | 6 => .int
  | 7 => .boolean
  | 8 => .array .int
  | 9 => .array .int
  | 10 => .array .int
  | 11 => .array .int
  | 12 => .array .int
  | 13 => .array .int
  | 14 => .array .int
  | 15 => .array .int
  | 16 => .array .int
  | 17 => .int
  | 18 => .array .int
  | 19 => .array .int
  | 20 => .array .int
  | 21 => .array .int
  | 22 => .int
  | 23 => .int
  | 24 => .int
  | 25 => .int
  | _ => .array .int
abbrev wsX90 : List Cond := u_ws RX9 TX9 27
theorem nmX9 : ∀ a, a < 27 → ∀ b, b < 27 → a ≠ b → (TX9 a).2.1 ≠ (TX9 b).2.1 := by decide +kernel
theorem tyX9_ok : ∀ k, k < 27 → parseFieldDescriptor (TX9 k).2.2.1 = some (tyX9 k) := by decide +kernel
abbrev cX9_init : ByteArray := prog_11_method_1_code
def yX9_init : MethodName := ⟨RX9, "<init>", "()V"⟩
abbrev cX9_in : ByteArray := prog_11_method_2_code
def yX9_in : MethodName := ⟨RX9, "in", "(III)Z"⟩
abbrev cX9_isPicture : ByteArray := prog_11_method_3_code
def yX9_isPicture : MethodName := ⟨RX9, "isPicture", "(I)Z"⟩
abbrev cX9_seed : ByteArray := prog_11_method_4_code
def yX9_seed : MethodName := ⟨RX9, "seed", "(I)I"⟩
abbrev cX9_lightAt : ByteArray := prog_11_method_5_code
def yX9_lightAt : MethodName := ⟨RX9, "lightAt", "(II)I"⟩
abbrev cX9_light : ByteArray := prog_11_method_6_code
def yX9_light : MethodName := ⟨RX9, "light", "(II)I"⟩
abbrev cX9_shoot : ByteArray := prog_11_method_7_code
def yX9_shoot : MethodName := ⟨RX9, "shoot", "(IIIII)I"⟩
abbrev cX9_clear : ByteArray := prog_11_method_8_code
def yX9_clear : MethodName := ⟨RX9, "clear", "()I"⟩
abbrev cX9_isDot : ByteArray := prog_11_method_9_code
def yX9_isDot : MethodName := ⟨RX9, "isDot", "(III)Z"⟩
abbrev cX9_dotAt : ByteArray := prog_11_method_10_code
def yX9_dotAt : MethodName := ⟨RX9, "dotAt", "(III)I"⟩
abbrev cX9_dot : ByteArray := prog_11_method_11_code
def yX9_dot : MethodName := ⟨RX9, "dot", "(IIII)I"⟩
abbrev cX9_at : ByteArray := prog_11_method_12_code
def yX9_at : MethodName := ⟨RX9, "at", "(III)I"⟩
abbrev cX9_rules : ByteArray := prog_11_method_13_code
def yX9_rules : MethodName := ⟨RX9, "rules", "(II)I"⟩
abbrev cX9_scoreOf : ByteArray := prog_11_method_14_code
def yX9_scoreOf : MethodName := ⟨RX9, "scoreOf", "(III)I"⟩
abbrev cX9_signOf : ByteArray := prog_11_method_15_code
def yX9_signOf : MethodName := ⟨RX9, "signOf", "(III)I"⟩
abbrev cX9_isMark : ByteArray := prog_11_method_16_code
def yX9_isMark : MethodName := ⟨RX9, "isMark", "(III)Z"⟩
abbrev cX9_layMarks : ByteArray := prog_11_method_17_code
def yX9_layMarks : MethodName := ⟨RX9, "layMarks", "(I)V"⟩
abbrev cX9_putMark : ByteArray := prog_11_method_18_code
def yX9_putMark : MethodName := ⟨RX9, "putMark", "(II)V"⟩
abbrev cX9_bits : ByteArray := prog_11_method_19_code
def yX9_bits : MethodName := ⟨RX9, "bits", "(I)I"⟩
abbrev cX9_distance : ByteArray := prog_11_method_20_code
def yX9_distance : MethodName := ⟨RX9, "distance", "(IIII)I"⟩
abbrev cX9_nearest : ByteArray := prog_11_method_21_code
def yX9_nearest : MethodName := ⟨RX9, "nearest", "(III)I"⟩
abbrev cX9_markX : ByteArray := prog_11_method_22_code
def yX9_markX : MethodName := ⟨RX9, "markX", "(II)I"⟩
abbrev cX9_markY : ByteArray := prog_11_method_23_code
def yX9_markY : MethodName := ⟨RX9, "markY", "(II)I"⟩
abbrev cX9_layPair : ByteArray := prog_11_method_24_code
def yX9_layPair : MethodName := ⟨RX9, "layPair", "(II)V"⟩
abbrev cX9_votesFor : ByteArray := prog_11_method_25_code
def yX9_votesFor : MethodName := ⟨RX9, "votesFor", "(IIII)I"⟩
abbrev cX9_layPlaces : ByteArray := prog_11_method_26_code
def yX9_layPlaces : MethodName := ⟨RX9, "layPlaces", "()V"⟩
abbrev cX9_lay : ByteArray := prog_11_method_27_code
def yX9_lay : MethodName := ⟨RX9, "lay", "()V"⟩
abbrev cX9_score : ByteArray := prog_11_method_28_code
def yX9_score : MethodName := ⟨RX9, "score", "(III)I"⟩
abbrev cX9_marks : ByteArray := prog_11_method_29_code
def yX9_marks : MethodName := ⟨RX9, "marks", "(I)I"⟩
abbrev cX9_hasMark : ByteArray := prog_11_method_30_code
def yX9_hasMark : MethodName := ⟨RX9, "hasMark", "(II)Z"⟩
abbrev cX9_mark : ByteArray := prog_11_method_31_code
def yX9_mark : MethodName := ⟨RX9, "mark", "(III)I"⟩
abbrev cX9_match : ByteArray := prog_11_method_32_code
def yX9_match : MethodName := ⟨RX9, "match", "(III)I"⟩
abbrev cX9_arePair : ByteArray := prog_11_method_33_code
def yX9_arePair : MethodName := ⟨RX9, "arePair", "(II)Z"⟩
abbrev cX9_shift : ByteArray := prog_11_method_34_code
def yX9_shift : MethodName := ⟨RX9, "shift", "(III)I"⟩
abbrev cX9_place : ByteArray := prog_11_method_35_code
def yX9_place : MethodName := ⟨RX9, "place", "(II)I"⟩
abbrev cX9_open : ByteArray := prog_11_method_36_code
def yX9_open : MethodName := ⟨RX9, "open", "()I"⟩
abbrev cX9_joined : ByteArray := prog_11_method_37_code
def yX9_joined : MethodName := ⟨RX9, "joined", "()I"⟩
abbrev cX9_layOverlap : ByteArray := prog_11_method_38_code
def yX9_layOverlap : MethodName := ⟨RX9, "layOverlap", "(II)V"⟩
abbrev cX9_barsOverlap : ByteArray := prog_11_method_39_code
def yX9_barsOverlap : MethodName := ⟨RX9, "barsOverlap", "(IIZ)I"⟩
abbrev cX9_overlap : ByteArray := prog_11_method_40_code
def yX9_overlap : MethodName := ⟨RX9, "overlap", "(III)I"⟩
abbrev cX9_dotOver : ByteArray := prog_11_method_41_code
def yX9_dotOver : MethodName := ⟨RX9, "dotOver", "(III)I"⟩
abbrev cX9_lights : ByteArray := prog_11_method_42_code
def yX9_lights : MethodName := ⟨RX9, "lights", "(III)I"⟩
abbrev cX9_leastAt : ByteArray := prog_11_method_43_code
def yX9_leastAt : MethodName := ⟨RX9, "leastAt", "(II)I"⟩
abbrev cX9_below : ByteArray := prog_11_method_44_code
def yX9_below : MethodName := ⟨RX9, "below", "(II)I"⟩
abbrev cX9_seam : ByteArray := prog_11_method_45_code
def yX9_seam : MethodName := ⟨RX9, "seam", "(III)I"⟩
abbrev cX9_pictureAt : ByteArray := prog_11_method_46_code
def yX9_pictureAt : MethodName := ⟨RX9, "pictureAt", "(II)I"⟩
abbrev cX9_whole : ByteArray := prog_11_method_47_code
def yX9_whole : MethodName := ⟨RX9, "whole", "(III)I"⟩
abbrev cX9_edge : ByteArray := prog_11_method_48_code
def yX9_edge : MethodName := ⟨RX9, "edge", "(I)I"⟩
abbrev cX9_extent : ByteArray := prog_11_method_49_code
def yX9_extent : MethodName := ⟨RX9, "extent", "(I)I"⟩
abbrev cX9_told : ByteArray := prog_11_method_50_code
def yX9_told : MethodName := ⟨RX9, "told", "(I)I"⟩
def RJ6 : String := "java/lang/Integer"
def TJ6 : u_T := fun k => match k with
  | _ => ("", "", "", false)
def tyJ6 : Nat → FieldType := fun k => match k with
  | _ => .int
abbrev wsJ60 : List Cond := u_ws RJ6 TJ6 0
theorem nmJ6 : ∀ a, a < 0 → ∀ b, b < 0 → a ≠ b → (TJ6 a).2.1 ≠ (TJ6 b).2.1 := by decide +kernel
theorem tyJ6_ok : ∀ k, k < 0 → parseFieldDescriptor (TJ6 k).2.2.1 = some (tyJ6 k) := by decide +kernel
abbrev cJ6_bitCount_0f7a4 : ByteArray := prog_12_method_49_code
def yJ6_bitCount_0f7a4 : MethodName := ⟨RJ6, "bitCount", "(I)I"⟩
def RJ9 : String := "java/lang/Math"
def TJ9 : u_T := fun k => match k with
  | _ => ("", "", "", false)
def tyJ9 : Nat → FieldType := fun k => match k with
  | _ => .int
abbrev wsJ90 : List Cond := u_ws RJ9 TJ9 0
theorem nmJ9 : ∀ a, a < 0 → ∀ b, b < 0 → a ≠ b → (TJ9 a).2.1 ≠ (TJ9 b).2.1 := by decide +kernel
theorem tyJ9_ok : ∀ k, k < 0 → parseFieldDescriptor (TJ9 k).2.2.1 = some (tyJ9 k) := by decide +kernel
abbrev cJ9_abs_0f7a4 : ByteArray := prog_13_method_59_code
def yJ9_abs_0f7a4 : MethodName := ⟨RJ9, "abs", "(I)I"⟩
abbrev cJ9_max_7cf53 : ByteArray := prog_13_method_65_code
def yJ9_max_7cf53 : MethodName := ⟨RJ9, "max", "(II)I"⟩
abbrev cJ9_min_7cf53 : ByteArray := prog_13_method_69_code
def yJ9_min_7cf53 : MethodName := ⟨RJ9, "min", "(II)I"⟩
def RL : String := "PictureJoinLaw"
abbrev cL_law : ByteArray := code
def yL_law : MethodName := ⟨RL, "law", "([I)Z"⟩
end
section
/-! One world of numbered cells; all ints of all its cells in one memory; the machine's walks over it. -/
abbrev Sv : Type := Int ⊕ Nat
def zI (z : Int) : Int32 := Int32.ofInt z
abbrev InR (z : Int) : Prop := -2147483648 ≤ z ∧ z ≤ 2147483647
theorem zI_add (a b : Int) : zI a + zI b = zI (a + b) := (Int32.ofInt_add a b).symm
theorem zI_sub (a b : Int) : zI a - zI b = zI (a - b) := (Int32.ofInt_sub a b).symm
theorem zI_mul (a b : Int) : zI a * zI b = zI (a * b) := (Int32.ofInt_mul a b).symm
theorem zI_neg (a : Int) : -zI a = zI (-a) := (Int32.ofInt_neg a).symm
theorem zI_toInt {a : Int} (h : InR a) : (zI a).toInt = a := Int32.toInt_ofInt_of_le h.1 (Int.lt_of_le_of_lt h.2 (by decide))
theorem zI_of (x : Int32) : zI x.toInt = x := Int32.ofInt_toInt x
theorem zI_in (x : Int32) : InR x.toInt := ⟨Int32.le_toInt x, Int.le_of_lt_add_one (Int32.toInt_lt x)⟩
theorem zI_lt {a b : Int} (ha : InR a) (hb : InR b) : zI a < zI b ↔ a < b := by
  rw [Int32.lt_iff_toInt_lt, zI_toInt ha, zI_toInt hb]
theorem zI_le {a b : Int} (ha : InR a) (hb : InR b) : zI a ≤ zI b ↔ a ≤ b := by
  rw [Int32.le_iff_toInt_le, zI_toInt ha, zI_toInt hb]
theorem zI_eq {a b : Int} (ha : InR a) (hb : InR b) : zI a = zI b ↔ a = b := by
  rw [← Int32.toInt_inj, zI_toInt ha, zI_toInt hb]
theorem zI_clamp {a : Int} (ha : InR a) : (zI a).toNatClampNeg = a.toNat := by
  rw [← Int32.toNat_toInt, zI_toInt ha]
theorem zI_0 : zI 0 = 0 := by decide +kernel
theorem zI_tdiv {a b : Int} (ha : InR a) (hb : InR b) : zI a / zI b = zI (a.tdiv b) := (Int32.ofInt_tdiv ha.1 ha.2 hb.1 hb.2).symm
theorem zI_ne0 {b : Int} (h : InR b) (hb : b ≠ 0) : ¬ zI b = 0 := by
  rw [← zI_0, zI_eq h ⟨by decide, by decide⟩]; exact hb
theorem zI_rem {a b : Int} (ha : InR a) (hb : InR b) : zI a - zI a / zI b * zI b = zI (a.tmod b) := by
  rw [zI_tdiv ha hb, zI_mul, zI_sub]
  congr 1
  have := Int.tmod_add_tdiv_mul a b
  omega
theorem zI_vpin {a : Int} {n : Nat} (h0 : 0 ≤ a) (h1 : a < n) (hn : n < 2147483648) : vp_in (zI a) n := by
  have hr : InR a := ⟨by omega, by omega⟩
  rw [vp_in_iff, zI_toInt hr]
  exact ⟨h0, h1⟩
def vv (v : Sv) : Value := match v with
  | .inl z => .int (zI z)
  | .inr a => .ref a
theorem vv_cat (v : Sv) : (vv v).category = 1 := by cases v <;> rfl
/-- the locals: by their places; none: nothing is known of that one -/
def vLi : Nat → List (Option Sv) → List (Nat × Value)
  | _, [] => []
  | i, none :: l => vLi (i + 1) l
  | i, some v :: l => (i, vv v) :: vLi (i + 1) l
theorem vLi_mem : ∀ (L : List (Option Sv)) (i j : Nat) (w : Value), (j, w) ∈ vLi i L ↔ ∃ v, i ≤ j ∧ L[j - i]? = some (some v) ∧ w = vv v
  | [], i, j, w => by simp [vLi]
  | none :: l, i, j, w => by
    rw [show vLi i (none :: l) = vLi (i + 1) l from rfl, vLi_mem l (i + 1) j w]
    constructor
    · rintro ⟨v, h1, h2, h3⟩
      refine ⟨v, by omega, ?_, h3⟩
      rw [show j - i = (j - (i + 1)) + 1 by omega, List.getElem?_cons_succ]; exact h2
    · rintro ⟨v, h1, h2, h3⟩
      have hj : i ≠ j := by
        rintro rfl
        rw [Nat.sub_self, List.getElem?_cons_zero] at h2
        cases h2
      refine ⟨v, by omega, ?_, h3⟩
      rw [show j - i = (j - (i + 1)) + 1 by omega, List.getElem?_cons_succ] at h2; exact h2
  | some u :: l, i, j, w => by
    rw [show vLi i (some u :: l) = (i, vv u) :: vLi (i + 1) l from rfl, List.mem_cons, vLi_mem l (i + 1) j w]
    constructor
    · rintro (h | ⟨v, h1, h2, h3⟩)
      · cases h
        exact ⟨u, Nat.le_refl _, by rw [Nat.sub_self]; rfl, rfl⟩
      · refine ⟨v, by omega, ?_, h3⟩
        rw [show j - i = (j - (i + 1)) + 1 by omega, List.getElem?_cons_succ]; exact h2
    · rintro ⟨v, h1, h2, h3⟩
      by_cases hj : i = j
      · subst hj
        rw [Nat.sub_self, List.getElem?_cons_zero] at h2
        cases h2
        exact Or.inl (by rw [h3])
      · refine Or.inr ⟨v, by omega, ?_, h3⟩
        rw [show j - i = (j - (i + 1)) + 1 by omega, List.getElem?_cons_succ] at h2; exact h2
theorem vLi_at {ls : Array Slot} {nL : Nat} {L : List (Option Sv)} (h : lv_has ls nL (vLi 0 L)) {i : Nat} {v : Sv} (hi : L[i]? = some (some v)) : ls[i]? = some (.val (vv v)) :=
  h.2.2 (i, vv v) ((vLi_mem L 0 i (vv v)).mpr ⟨v, Nat.zero_le _, hi, rfl⟩)
theorem vLi_set {ls : Array Slot} {nL : Nat} {L L' : List (Option Sv)} {i : Nat} {v : Sv} (hL : L.set i (some v) = L') (h : lv_has ls nL ((i, vv v) :: (vLi 0 L).filter (fun q => !(q.1 == i) && !(q.1 + 1 == i && q.2.category == 2)))) : lv_has ls nL (vLi 0 L') := by
  subst hL
  refine ⟨h.1, h.2.1, fun q hq => ?_⟩
  obtain ⟨j, w⟩ := q
  obtain ⟨u, -, h2, rfl⟩ := (vLi_mem _ 0 j w).mp hq
  refine h.2.2 (j, vv u) ?_
  rw [Nat.sub_zero] at h2
  by_cases hj : i = j
  · subst hj
    have hl : i < L.length := by
      have := (List.getElem?_eq_some_iff.mp h2).1
      rwa [List.length_set] at this
    rw [List.getElem?_set_self hl] at h2
    cases h2
    exact List.mem_cons_self
  · rw [List.getElem?_set_ne hj] at h2
    refine List.mem_cons_of_mem _ (List.mem_filter.mpr ⟨(vLi_mem L 0 j _).mpr ⟨u, Nat.zero_le _, h2, rfl⟩, ?_⟩)
    simp [vv_cat, Ne.symm hj]
theorem vLi_entry : ∀ (as : List Sv) (i k : Nat), lv_args i (as.map vv) = vLi i (as.map some ++ List.replicate k none)
  | [], i, k => by
    induction k generalizing i with
    | zero => rfl
    | succ k ih => exact ih (i + 1)
  | v :: as, i, k => by
    show (i, vv v) :: lv_args (if (vv v).category = 2 then i + 2 else i + 1) (as.map vv) = (i, vv v) :: vLi (i + 1) (as.map some ++ List.replicate k none)
    rw [vv_cat, if_neg (by decide), vLi_entry as (i + 1) k]
theorem lg_sl_vv : ∀ as : List Sv, (lg_sl (as.map vv)).length = as.length
  | [] => rfl
  | v :: as => by
    have h := lg_sl_vv as
    unfold lg_sl at h ⊢
    rw [List.map_cons, List.flatMap_cons, List.length_append, h, if_neg (by rw [vv_cat]; decide), List.length_cons, List.length_cons, List.length_nil]
    omega
/-! the world -/
abbrev GT : Type := va_G × ClassId × ClassId × ClassId × (Nat → Nat) × Nat × Nat × Nat
abbrev Mem : Type := Nat → Nat → Int
def jD (G : GT) : va_G := G.1
def jI (G : GT) : ClassId := G.2.1
def jP (G : GT) : ClassId := G.2.2.1
def jQ (G : GT) : ClassId := G.2.2.2.1
def ad (G : GT) : Nat → Nat := G.2.2.2.2.1
def jz (G : GT) : Nat := G.2.2.2.2.2.1
def jwx (G : GT) : Nat := G.2.2.2.2.2.2.1
def jwy (G : GT) : Nat := G.2.2.2.2.2.2.2
abbrev jcls : List vw_C := [(RX0, TX0, 6), (RX1, TX1, 5), (RX2, TX2, 5), (RX3, TX3, 7), (RX4, TX4, 5), (RX5, TX5, 6), (RX6, TX6, 3), (RX7, TX7, 1), (RX8, TX8, 6), (RX9, TX9, 27)]
abbrev jtys (G : GT) : List (ClassId × FieldType) := [(jI G, .int), (jP G, .object RX5), (jQ G, .object RX4)]
def jA (G : GT) : Nat → Prop := fun q => jz G ≤ q
abbrev ji (f : Nat → Int) (t : Nat) : Value := .int (zI (f t))
abbrev jr (G : GT) (k : Nat) : Value := .ref (ad G k)
abbrev jia (G : GT) (n : Nat) (f : Nat → Int) : va_E := .inl (jI G, n, .inl (fun t => zI (f t)))
abbrev jqa (c : ClassId) (n : Nat) (f : Nat → Nat) : va_E := .inl (c, n, .inr (.inr (.inr (.inr (fun t => some (f t))))))
/-- what lies in the cell numbered k, with the ints f -/
def jcl (G : GT) (k : Nat) (f : Nat → Int) : va_E :=
  if k = 0 then .inr (8, [jr G 1, jr G 2, jr G 3, jr G 4, ji f 4, ji f 5])
  else if k = 1 then .inr (7, [ji f 0])
  else if k = 2 then .inr (0, [jr G 5, jr G 6, jr G 7, ji f 3, ji f 4, ji f 5])
  else if k = 3 then .inr (3, [ji f 0, ji f 1, ji f 2, ji f 3, ji f 4, ji f 5, ji f 6])
  else if k = 4 then .inr (6, [jr G 8, jr G 9, ji f 2])
  else if k = 5 then jqa (jP G) 4 (fun t => ad G (10 + t))
  else if k = 6 then jqa (jQ G) 16 (fun t => ad G (46 + t))
  else if k = 7 then jia G 4 f
  else if k = 8 then jia G 400 f
  else if k = 9 then jia G 20 f
  else if k < 14 then .inr (5, [jr G (k + 4), jr G (k + 16), ji f 2, ji f 3, ji f 4, ji f 5])
  else if k < 18 then .inr (1, [jr G (k + 4), jr G (k + 8), ji f 2, ji f 3, ji f 4])
  else if k < 26 then jia G 400 f
  else if k < 30 then .inr (2, [jr G (k + 4), jr G (k + 8), jr G (k + 12), jr G (k + 16), ji f 4])
  else if k < 46 then jia G 16 f
  else if k < 62 then .inr (4, [jr G (k + 16), ji f 1, ji f 2, ji f 3, ji f 4])
  else if k < 78 then jia G 16 f
  else if k = 78 then .inr (9, [ji f 0, ji f 1, jr G 79, jr G 80, jr G 81, ji f 5, ji f 6, ji f 7, jr G 82, jr G 83, jr G 84, jr G 85, jr G 86, jr G 87, jr G 88, jr G 89, jr G 90, ji f 17, jr G 91, jr G 92, jr G 93, jr G 94, ji f 22, ji f 23, ji f 24, ji f 25, jr G 95])
  else if k < 81 then jia G 4 f
  else if k < 83 then jia G 1600 f
  else if k = 83 then jia G 4 f
  else if k < 86 then jia G 64 f
  else if k = 86 then jia G 256 f
  else if k < 91 then jia G 16 f
  else if k < 95 then jia G 4 f
  else jia G 400 f
theorem jcl_PJ (G : GT) (f : Nat → Int) : jcl G 0 f = .inr (8, [jr G 1, jr G 2, jr G 3, jr G 4, ji f 4, ji f 5]) := rfl
theorem jcl_WO (G : GT) (f : Nat → Int) : jcl G 1 f = .inr (7, [ji f 0]) := rfl
theorem jcl_AL (G : GT) (f : Nat → Int) : jcl G 2 f = .inr (0, [jr G 5, jr G 6, jr G 7, ji f 3, ji f 4, ji f 5]) := rfl
theorem jcl_OV (G : GT) (f : Nat → Int) : jcl G 3 f = .inr (3, [ji f 0, ji f 1, ji f 2, ji f 3, ji f 4, ji f 5, ji f 6]) := rfl
theorem jcl_SE (G : GT) (f : Nat → Int) : jcl G 4 f = .inr (6, [jr G 8, jr G 9, ji f 2]) := rfl
theorem jcl_5 (G : GT) (f : Nat → Int) : jcl G 5 f = jqa (jP G) 4 (fun t => ad G (10 + t)) := rfl
theorem jcl_6 (G : GT) (f : Nat → Int) : jcl G 6 f = jqa (jQ G) 16 (fun t => ad G (46 + t)) := rfl
theorem jcl_7 (G : GT) (f : Nat → Int) : jcl G 7 f = jia G 4 f := rfl
theorem jcl_8 (G : GT) (f : Nat → Int) : jcl G 8 f = jia G 400 f := rfl
theorem jcl_9 (G : GT) (f : Nat → Int) : jcl G 9 f = jia G 20 f := rfl
theorem jlt4 {P : Nat → Prop} (h0 : P 0) (h1 : P 1) (h2 : P 2) (h3 : P 3) {p : Nat} (hp : p < 4) : P p := by
  rcases (show p = 0 ∨ p = 1 ∨ p = 2 ∨ p = 3 by omega) with rfl | rfl | rfl | rfl <;> assumption
theorem jcl_PI (G : GT) {p : Nat} (hp : p < 4) (f : Nat → Int) : jcl G (10 + p) f = .inr (5, [jr G (14 + p), jr G (26 + p), ji f 2, ji f 3, ji f 4, ji f 5]) := jlt4 (P := fun p => jcl G (10 + p) f = .inr (5, [jr G (14 + p), jr G (26 + p), ji f 2, ji f 3, ji f 4, ji f 5])) rfl rfl rfl rfl hp
theorem jcl_DO (G : GT) {p : Nat} (hp : p < 4) (f : Nat → Int) : jcl G (14 + p) f = .inr (1, [jr G (18 + p), jr G (22 + p), ji f 2, ji f 3, ji f 4]) := jlt4 (P := fun p => jcl G (14 + p) f = .inr (1, [jr G (18 + p), jr G (22 + p), ji f 2, ji f 3, ji f 4])) rfl rfl rfl rfl hp
theorem jcl_va (G : GT) {p : Nat} (hp : p < 4) (f : Nat → Int) : jcl G (18 + p) f = jia G 400 f := jlt4 (P := fun p => jcl G (18 + p) f = jia G 400 f) rfl rfl rfl rfl hp
theorem jcl_sc (G : GT) {p : Nat} (hp : p < 4) (f : Nat → Int) : jcl G (22 + p) f = jia G 400 f := jlt4 (P := fun p => jcl G (22 + p) f = jia G 400 f) rfl rfl rfl rfl hp
theorem jcl_MA (G : GT) {p : Nat} (hp : p < 4) (f : Nat → Int) : jcl G (26 + p) f = .inr (2, [jr G (30 + p), jr G (34 + p), jr G (38 + p), jr G (42 + p), ji f 4]) := jlt4 (P := fun p => jcl G (26 + p) f = .inr (2, [jr G (30 + p), jr G (34 + p), jr G (38 + p), jr G (42 + p), ji f 4])) rfl rfl rfl rfl hp
theorem jcl_co (G : GT) {p : Nat} (hp : p < 4) (f : Nat → Int) : jcl G (30 + p) f = jia G 16 f := jlt4 (P := fun p => jcl G (30 + p) f = jia G 16 f) rfl rfl rfl rfl hp
theorem jcl_ro (G : GT) {p : Nat} (hp : p < 4) (f : Nat → Int) : jcl G (34 + p) f = jia G 16 f := jlt4 (P := fun p => jcl G (34 + p) f = jia G 16 f) rfl rfl rfl rfl hp
theorem jcl_he (G : GT) {p : Nat} (hp : p < 4) (f : Nat → Int) : jcl G (38 + p) f = jia G 16 f := jlt4 (P := fun p => jcl G (38 + p) f = jia G 16 f) rfl rfl rfl rfl hp
theorem jcl_si (G : GT) {p : Nat} (hp : p < 4) (f : Nat → Int) : jcl G (42 + p) f = jia G 16 f := jlt4 (P := fun p => jcl G (42 + p) f = jia G 16 f) rfl rfl rfl rfl hp
theorem jlt16 {P : Nat → Prop} (h0 : P 0) (h1 : P 1) (h2 : P 2) (h3 : P 3) (h4 : P 4) (h5 : P 5) (h6 : P 6) (h7 : P 7) (h8 : P 8) (h9 : P 9) (h10 : P 10) (h11 : P 11) (h12 : P 12) (h13 : P 13) (h14 : P 14) (h15 : P 15) {p : Nat} (hp : p < 16) : P p := by
  rcases (show p = 0 ∨ p = 1 ∨ p = 2 ∨ p = 3 ∨ p = 4 ∨ p = 5 ∨ p = 6 ∨ p = 7 ∨ p = 8 ∨ p = 9 ∨ p = 10 ∨ p = 11 ∨ p = 12 ∨ p = 13 ∨ p = 14 ∨ p = 15 by omega) with rfl | rfl | rfl | rfl | rfl | rfl | rfl | rfl | rfl | rfl | rfl | rfl | rfl | rfl | rfl | rfl <;> assumption
theorem jcl_PA (G : GT) {q : Nat} (hq : q < 16) (f : Nat → Int) : jcl G (46 + q) f = .inr (4, [jr G (62 + q), ji f 1, ji f 2, ji f 3, ji f 4]) := jlt16 (P := fun q => jcl G (46 + q) f = .inr (4, [jr G (62 + q), ji f 1, ji f 2, ji f 3, ji f 4])) rfl rfl rfl rfl rfl rfl rfl rfl rfl rfl rfl rfl rfl rfl rfl rfl hq
theorem jcl_pa (G : GT) {q : Nat} (hq : q < 16) (f : Nat → Int) : jcl G (62 + q) f = jia G 16 f := jlt16 (P := fun q => jcl G (62 + q) f = jia G 16 f) rfl rfl rfl rfl rfl rfl rfl rfl rfl rfl rfl rfl rfl rfl rfl rfl hq
theorem jcl_MO (G : GT) (f : Nat → Int) : jcl G 78 f = .inr (9, [ji f 0, ji f 1, jr G 79, jr G 80, jr G 81, ji f 5, ji f 6, ji f 7, jr G 82, jr G 83, jr G 84, jr G 85, jr G 86, jr G 87, jr G 88, jr G 89, jr G 90, ji f 17, jr G 91, jr G 92, jr G 93, jr G 94, ji f 22, ji f 23, ji f 24, ji f 25, jr G 95]) := rfl
theorem jcl_79 (G : GT) (f : Nat → Int) : jcl G 79 f = jia G 4 f := rfl
theorem jcl_80 (G : GT) (f : Nat → Int) : jcl G 80 f = jia G 4 f := rfl
theorem jcl_81 (G : GT) (f : Nat → Int) : jcl G 81 f = jia G 1600 f := rfl
theorem jcl_82 (G : GT) (f : Nat → Int) : jcl G 82 f = jia G 1600 f := rfl
theorem jcl_83 (G : GT) (f : Nat → Int) : jcl G 83 f = jia G 4 f := rfl
theorem jcl_84 (G : GT) (f : Nat → Int) : jcl G 84 f = jia G 64 f := rfl
theorem jcl_85 (G : GT) (f : Nat → Int) : jcl G 85 f = jia G 64 f := rfl
theorem jcl_86 (G : GT) (f : Nat → Int) : jcl G 86 f = jia G 256 f := rfl
theorem jcl_87 (G : GT) (f : Nat → Int) : jcl G 87 f = jia G 16 f := rfl
theorem jcl_88 (G : GT) (f : Nat → Int) : jcl G 88 f = jia G 16 f := rfl
theorem jcl_89 (G : GT) (f : Nat → Int) : jcl G 89 f = jia G 16 f := rfl
theorem jcl_90 (G : GT) (f : Nat → Int) : jcl G 90 f = jia G 16 f := rfl
theorem jcl_91 (G : GT) (f : Nat → Int) : jcl G 91 f = jia G 4 f := rfl
theorem jcl_92 (G : GT) (f : Nat → Int) : jcl G 92 f = jia G 4 f := rfl
theorem jcl_93 (G : GT) (f : Nat → Int) : jcl G 93 f = jia G 4 f := rfl
theorem jcl_94 (G : GT) (f : Nat → Int) : jcl G 94 f = jia G 4 f := rfl
theorem jcl_95 (G : GT) (f : Nat → Int) : jcl G 95 f = jia G 400 f := rfl
/-- the heap holds the world -/
def jhw (G : GT) (μ : Mem) (H : Heap) : Prop := ∀ k : Nat, k < 96 → va_at (jD G) jcls (ad G k, jcl G k (μ k)) H
/-- one int written -/
def jms (μ : Mem) (k j : Nat) (z : Int) : Mem := fun k' j' => if k' = k ∧ j' = j then z else μ k' j'
theorem jms_same (μ : Mem) (k j : Nat) (z : Int) : jms μ k j z k j = z := by simp [jms]
theorem jms_cell (μ : Mem) (k j : Nat) (z : Int) {k' : Nat} (h : k' ≠ k) : jms μ k j z k' = μ k' := by funext j'; simp [jms, h]
theorem jms_slot (μ : Mem) (k j : Nat) (z : Int) {k' j' : Nat} (h : j' ≠ j) : jms μ k j z k' j' = μ k' j' := by simp [jms, h]
theorem jms_at (μ : Mem) (k j : Nat) (z : Int) : jms μ k j z k = fun t => if t = j then z else μ k t := by funext t; simp [jms]
def jadOK (G : GT) : Prop := (∀ i j : Nat, i < 96 → j < 96 → ad G i = ad G j → i = j) ∧ ∀ i : Nat, i < 96 → jz G ≤ ad G i
theorem jhw_put {G : GT} {μ : Mem} {H H1 : Heap} {k j : Nat} {z : Int} (hw : jhw G μ H) (hA : jadOK G) (hk : k < 96) (he : va_at (jD G) jcls (ad G k, jcl G k (fun t => if t = j then z else μ k t)) H1) (oq : ∀ q : Nat, q ≠ ad G k → H1[q]? = H[q]?) : jhw G (jms μ k j z) H1 := by
  intro i hi
  by_cases h : i = k
  · subst h
    rw [jms_at]
    exact he
  · rw [jms_cell _ _ _ _ h]
    exact (hw i hi).kept (oq _ (fun e => h (hA.1 i k hi hk e)))
/-! the words, and what every frame of ours is given -/
def jws : List Cond := lw_tbl.filter goodWord
theorem jm {w : Cond} (h : w ∈ lw_tbl) (hg : goodWord w = true) : w ∈ jws := List.mem_filter.mpr ⟨h, hg⟩
theorem jgood (y : MethodName) (cc : ByteArray) (n : Nat) (r : Option FieldType) (h : Cond.code y cc n r ∈ jws) : GoodIn jws (Cond.code y cc n r :: jws) := by
  intro w hw
  rcases List.mem_cons.mp hw with rfl | hw
  · exact ⟨h, good_of_word (List.mem_filter.mp h).2⟩
  · exact ⟨hw, good_of_word (List.mem_filter.mp hw).2⟩
def jwin : MethodName := ⟨"PictureJoin", "within", "(III)Z"⟩
def jwxv : Nat → Value := fun j => .int (zI (if j = 1 then 0 else 1))
def jwyv : Nat → Value := fun j => .int (zI (if j = 0 then 0 else if j = 3 then -1 else 1))
def jZs (G : GT) (U : State) (H : Heap) : Prop := va_Z RX1 "WAYS_X" "[I" (.ref (jwx G)) (jA G) U H ∧ va_Z RX1 "WAYS_Y" "[I" (.ref (jwy G)) (jA G) U H ∧ va_T .int (jwx G) 4 jwxv (jA G) U H ∧ va_T .int (jwy G) 4 jwyv (jA G) U H ∧ va_Nw (.methodLinkNest "PictureJoin$Dots" 39 jwin "PictureJoin") U
def jWd (G : GT) (μ : Mem) (U : State) : Prop := jhw G μ U.heap ∧ va_K (jD G) jcls (jtys G) U ∧ jZs G U U.heap ∧ jz G ≤ U.heap.size
theorem jZs.moved {G : GT} {u U : State} {H : Heap} (hW : u.WarmedH U.vm) (h : jZs G u H) : jZs G U H := ⟨va_Z.moved hW.alike h.1, va_Z.moved hW.alike h.2.1, va_T.moved hW.alike h.2.2.1, va_T.moved hW.alike h.2.2.2.1, va_Nw.warmM hW h.2.2.2.2⟩
theorem jZs.kept {G : GT} {U : State} {H H1 : Heap} (h : jZs G U H) (hq : ∀ a : Nat, a < H.size → ¬ jA G a → H1[a]? = H[a]?) : jZs G U H1 := ⟨va_Z.kept h.1 hq, va_Z.kept h.2.1 hq, va_T.kept h.2.2.1 hq, va_T.kept h.2.2.2.1 hq, h.2.2.2.2⟩
abbrev FrT : Type := Program × Launch × Env × Room × State × MethodId × Array Value × List Frame × Method × Code
def Cx (F : FrT) (G : GT) (own : String) (cc : ByteArray) (nL : Nat) (ret : Option FieldType) : Prop := match F with
  | (p, _, _, _, s, m, args, _, meth, c) => p.tables.exec = Jvm.exec ∧ c.code = cc ∧ c.maxLocals = nL ∧ s.vm.findClass own = some m.cls ∧ (∀ w ∈ jws, w.before args s = true) ∧ meth.sig.returnType = ret ∧ meth.locks = false ∧ va_K (jD G) jcls (jtys G) s ∧ jZs G s s.heap ∧ jz G ≤ s.heap.size ∧ jadOK G
def jX (F : FrT) (G : GT) (nL k n : Nat) (Q : State → Prop) (pc : Nat) (L : List (Option Sv)) (st : List Sv) (μ : Mem) : Prop := match F with
  | (p, l, e, R, s, m, args, below, meth, c) => ∀ (H : Heap) (locs : List Loc) (ls : Array Slot), jhw G μ H → va_S (jA G) s.heap H locs → lv_has ls nL (vLi 0 L) → W p l e R s m args below meth c H locs k n Q (F0 m pc ls (st.map vv))
def Dn (cc : ByteArray) (pc : Nat) (i : Instr) (n pc2 : Nat) : Prop := decode cc pc = .ok (i, n) ∧ pc2 = pc + n
def Dj (cc : ByteArray) (pc : Nat) (i : Int → Instr) (off : Int) (n pc2 tgt : Nat) : Prop := decode cc pc = .ok (i off, n) ∧ pc2 = pc + n ∧ (pc : Int) + off = (tgt : Int)
section JX
variable {F : FrT} {G : GT} {own : String} {cc : ByteArray} {nL k n : Nat} {ret : Option FieldType} {Q : State → Prop} {pc pc2 tgt : Nat} {L L' : List (Option Sv)} {st : List Sv} {μ : Mem} {off : Int}
theorem jx_iload_n (C : Cx F G own cc nL ret) {q : Fin 4} (hd : Dn cc pc (.iload_n q) 1 pc2) {z : Int} (hl : L[(q : Nat)]? = some (some (.inl z))) (kk : jX F G nL k n Q pc2 L (.inl z :: st) μ) : jX F G nL k n Q pc L st μ := by
  obtain ⟨p, l, e, R, s, m, args, below, meth, c⟩ := F
  obtain ⟨hx, hb, -⟩ := C
  obtain ⟨hd, rfl⟩ := hd
  intro H locs ls hw hS h
  exact lv_iload_n hx hb hd rfl (vLi_at h hl) (kk H locs ls hw hS h)
theorem jx_iload (C : Cx F G own cc nL ret) {q : Nat} (hd : Dn cc pc (.iload q) 2 pc2) {z : Int} (hl : L[q]? = some (some (.inl z))) (kk : jX F G nL k n Q pc2 L (.inl z :: st) μ) : jX F G nL k n Q pc L st μ := by
  obtain ⟨p, l, e, R, s, m, args, below, meth, c⟩ := F
  obtain ⟨hx, hb, -⟩ := C
  obtain ⟨hd, rfl⟩ := hd
  intro H locs ls hw hS h
  exact lv_iload hx hb hd (vLi_at h hl) (kk H locs ls hw hS h)
theorem jx_aload_n (C : Cx F G own cc nL ret) {q : Fin 4} (hd : Dn cc pc (.aload_n q) 1 pc2) {a : Nat} (hl : L[(q : Nat)]? = some (some (.inr a))) (kk : jX F G nL k n Q pc2 L (.inr a :: st) μ) : jX F G nL k n Q pc L st μ := by
  obtain ⟨p, l, e, R, s, m, args, below, meth, c⟩ := F
  obtain ⟨hx, hb, -⟩ := C
  obtain ⟨hd, rfl⟩ := hd
  intro H locs ls hw hS h
  exact lv_aload_n hx hb hd rfl (vLi_at h hl) (kk H locs ls hw hS h)
theorem jx_aload (C : Cx F G own cc nL ret) {q : Nat} (hd : Dn cc pc (.aload q) 2 pc2) {a : Nat} (hl : L[q]? = some (some (.inr a))) (kk : jX F G nL k n Q pc2 L (.inr a :: st) μ) : jX F G nL k n Q pc L st μ := by
  obtain ⟨p, l, e, R, s, m, args, below, meth, c⟩ := F
  obtain ⟨hx, hb, -⟩ := C
  obtain ⟨hd, rfl⟩ := hd
  intro H locs ls hw hS h
  exact lv_aload hx hb hd (vLi_at h hl) (kk H locs ls hw hS h)
theorem jx_istore_n (C : Cx F G own cc nL ret) {q : Fin 4} (hd : Dn cc pc (.istore_n q) 1 pc2) {z : Int} (hi : (q : Nat) < nL) (hL : L.set (q : Nat) (some (.inl z)) = L') (kk : jX F G nL k n Q pc2 L' st μ) : jX F G nL k n Q pc L (.inl z :: st) μ := by
  obtain ⟨p, l, e, R, s, m, args, below, meth, c⟩ := F
  obtain ⟨hx, hb, -⟩ := C
  obtain ⟨hd, rfl⟩ := hd
  intro H locs ls hw hS h
  exact lv_istore_n hx hb hd rfl h hi rfl (fun ls' h' => kk H locs ls' hw hS (vLi_set (v := .inl z) hL h'))
theorem jx_istore (C : Cx F G own cc nL ret) {q : Nat} (hd : Dn cc pc (.istore q) 2 pc2) {z : Int} (hi : q < nL) (hL : L.set q (some (.inl z)) = L') (kk : jX F G nL k n Q pc2 L' st μ) : jX F G nL k n Q pc L (.inl z :: st) μ := by
  obtain ⟨p, l, e, R, s, m, args, below, meth, c⟩ := F
  obtain ⟨hx, hb, -⟩ := C
  obtain ⟨hd, rfl⟩ := hd
  intro H locs ls hw hS h
  exact lv_istore hx hb hd h hi rfl (fun ls' h' => kk H locs ls' hw hS (vLi_set (v := .inl z) hL h'))
theorem jx_astore_n (C : Cx F G own cc nL ret) {q : Fin 4} (hd : Dn cc pc (.astore_n q) 1 pc2) {a : Nat} (hi : (q : Nat) < nL) (hL : L.set (q : Nat) (some (.inr a)) = L') (kk : jX F G nL k n Q pc2 L' st μ) : jX F G nL k n Q pc L (.inr a :: st) μ := by
  obtain ⟨p, l, e, R, s, m, args, below, meth, c⟩ := F
  obtain ⟨hx, hb, -⟩ := C
  obtain ⟨hd, rfl⟩ := hd
  intro H locs ls hw hS h
  exact lv_astore_n hx hb hd rfl h hi rfl (fun ls' h' => kk H locs ls' hw hS (vLi_set (v := .inr a) hL h'))
theorem jx_astore (C : Cx F G own cc nL ret) {q : Nat} (hd : Dn cc pc (.astore q) 2 pc2) {a : Nat} (hi : q < nL) (hL : L.set q (some (.inr a)) = L') (kk : jX F G nL k n Q pc2 L' st μ) : jX F G nL k n Q pc L (.inr a :: st) μ := by
  obtain ⟨p, l, e, R, s, m, args, below, meth, c⟩ := F
  obtain ⟨hx, hb, -⟩ := C
  obtain ⟨hd, rfl⟩ := hd
  intro H locs ls hw hS h
  exact lv_astore hx hb hd h hi rfl (fun ls' h' => kk H locs ls' hw hS (vLi_set (v := .inr a) hL h'))
theorem jx_iinc (C : Cx F G own cc nL ret) {q : Nat} {d : Int} (hd : Dn cc pc (.iinc q d) 3 pc2) {z : Int} (hl : L[q]? = some (some (.inl z))) (hi : q < nL) (hL : L.set q (some (.inl (z + d))) = L') (kk : jX F G nL k n Q pc2 L' st μ) : jX F G nL k n Q pc L st μ := by
  obtain ⟨p, l, e, R, s, m, args, below, meth, c⟩ := F
  obtain ⟨hx, hb, -⟩ := C
  obtain ⟨hd, rfl⟩ := hd
  intro H locs ls hw hS h
  obtain ⟨j, hj⟩ := List.getElem?_of_mem ((vLi_mem L 0 q (vv (.inl z))).mpr ⟨.inl z, Nat.zero_le _, hl, rfl⟩)
  exact lv_iinc (x := zI z) (v := zI (z + d)) hx hb hd h hj (zI_add z d) hi rfl (fun ls' h' => kk H locs ls' hw hS (vLi_set (v := .inl (z + d)) hL h'))
theorem jx_iconst (C : Cx F G own cc nL ret) {z : Int} (hd : Dn cc pc (.iconst z) 1 pc2) (kk : jX F G nL k n Q pc2 L (.inl z :: st) μ) : jX F G nL k n Q pc L st μ := by
  obtain ⟨p, l, e, R, s, m, args, below, meth, c⟩ := F
  obtain ⟨hx, hb, -⟩ := C
  obtain ⟨hd, rfl⟩ := hd
  intro H locs ls hw hS h
  exact lv_iconst hx hb hd rfl (kk H locs ls hw hS h)
theorem jx_bipush (C : Cx F G own cc nL ret) {z : Int} (hd : Dn cc pc (.bipush z) 2 pc2) (hz : (Int8.ofInt z).toInt32 = zI z) (kk : jX F G nL k n Q pc2 L (.inl z :: st) μ) : jX F G nL k n Q pc L st μ := by
  obtain ⟨p, l, e, R, s, m, args, below, meth, c⟩ := F
  obtain ⟨hx, hb, -⟩ := C
  obtain ⟨hd, rfl⟩ := hd
  intro H locs ls hw hS h
  exact lv_bipush hx hb hd hz (kk H locs ls hw hS h)
theorem jx_sipush (C : Cx F G own cc nL ret) {z : Int} (hd : Dn cc pc (.sipush z) 3 pc2) (hz : (Int16.ofInt z).toInt32 = zI z) (kk : jX F G nL k n Q pc2 L (.inl z :: st) μ) : jX F G nL k n Q pc L st μ := by
  obtain ⟨p, l, e, R, s, m, args, below, meth, c⟩ := F
  obtain ⟨hx, hb, -⟩ := C
  obtain ⟨hd, rfl⟩ := hd
  intro H locs ls hw hS h
  exact lv_sipush hx hb hd hz (kk H locs ls hw hS h)
theorem jx_ldc (C : Cx F G own cc nL ret) {i : Nat} {z : Int} {v : Int32} (hd : Dn cc pc (.ldc i) 2 pc2) (hm : Cond.constant own i v ∈ jws) (hz : v = zI z) (kk : jX F G nL k n Q pc2 L (.inl z :: st) μ) : jX F G nL k n Q pc L st μ := by
  obtain ⟨p, l, e, R, s, m, args, below, meth, c⟩ := F
  obtain ⟨hx, hb, -, hown, hts, -⟩ := C
  obtain ⟨hd, rfl⟩ := hd
  subst hz
  intro H locs ls hw hS h
  exact lv_ldc hx hb hown (hts _ hm) hd (kk H locs ls hw hS h)
theorem jx_ldcw (C : Cx F G own cc nL ret) {i : Nat} {z : Int} {v : Int32} (hd : Dn cc pc (.ldc_w i) 3 pc2) (hm : Cond.constant own i v ∈ jws) (hz : v = zI z) (kk : jX F G nL k n Q pc2 L (.inl z :: st) μ) : jX F G nL k n Q pc L st μ := by
  obtain ⟨p, l, e, R, s, m, args, below, meth, c⟩ := F
  obtain ⟨hx, hb, -, hown, hts, -⟩ := C
  obtain ⟨hd, rfl⟩ := hd
  subst hz
  intro H locs ls hw hS h
  exact lv_ldcw hx hb hown (hts _ hm) hd (kk H locs ls hw hS h)
theorem jx_iadd (C : Cx F G own cc nL ret) {a b : Int} (hd : Dn cc pc .iadd 1 pc2) (kk : jX F G nL k n Q pc2 L (.inl (a + b) :: st) μ) : jX F G nL k n Q pc L (.inl b :: .inl a :: st) μ := by
  obtain ⟨p, l, e, R, s, m, args, below, meth, c⟩ := F
  obtain ⟨hx, hb, -⟩ := C
  obtain ⟨hd, rfl⟩ := hd
  intro H locs ls hw hS h
  exact lv_iadd hx hb hd (by rw [zI_add]; exact kk H locs ls hw hS h)
theorem jx_isub (C : Cx F G own cc nL ret) {a b : Int} (hd : Dn cc pc .isub 1 pc2) (kk : jX F G nL k n Q pc2 L (.inl (a - b) :: st) μ) : jX F G nL k n Q pc L (.inl b :: .inl a :: st) μ := by
  obtain ⟨p, l, e, R, s, m, args, below, meth, c⟩ := F
  obtain ⟨hx, hb, -⟩ := C
  obtain ⟨hd, rfl⟩ := hd
  intro H locs ls hw hS h
  exact lv_isub hx hb hd (by rw [zI_sub]; exact kk H locs ls hw hS h)
theorem jx_imul (C : Cx F G own cc nL ret) {a b : Int} (hd : Dn cc pc .imul 1 pc2) (kk : jX F G nL k n Q pc2 L (.inl (a * b) :: st) μ) : jX F G nL k n Q pc L (.inl b :: .inl a :: st) μ := by
  obtain ⟨p, l, e, R, s, m, args, below, meth, c⟩ := F
  obtain ⟨hx, hb, -⟩ := C
  obtain ⟨hd, rfl⟩ := hd
  intro H locs ls hw hS h
  exact lv_imul hx hb hd (by rw [zI_mul]; exact kk H locs ls hw hS h)
theorem jx_ineg (C : Cx F G own cc nL ret) {a : Int} (hd : Dn cc pc .ineg 1 pc2) (kk : jX F G nL k n Q pc2 L (.inl (-a) :: st) μ) : jX F G nL k n Q pc L (.inl a :: st) μ := by
  obtain ⟨p, l, e, R, s, m, args, below, meth, c⟩ := F
  obtain ⟨hx, hb, -⟩ := C
  obtain ⟨hd, rfl⟩ := hd
  intro H locs ls hw hS h
  exact lv_ineg hx hb hd (by rw [zI_neg]; exact kk H locs ls hw hS h)
theorem jx_idiv (C : Cx F G own cc nL ret) {a b z : Int} (hd : Dn cc pc .idiv 1 pc2) (ha : InR a) (hb0 : 0 < b) (hbr : InR b) (hz : a.tdiv b = z) (kk : jX F G nL k n Q pc2 L (.inl z :: st) μ) : jX F G nL k n Q pc L (.inl b :: .inl a :: st) μ := by
  obtain ⟨p, l, e, R, s, m, args, below, meth, c⟩ := F
  obtain ⟨hx, hb, -⟩ := C
  obtain ⟨hd, rfl⟩ := hd
  subst hz
  intro H locs ls hw hS h
  exact lv_idiv hx hb hd (zI_ne0 hbr (by omega)) (by rw [zI_tdiv ha hbr]; exact kk H locs ls hw hS h)
theorem jx_irem (C : Cx F G own cc nL ret) {a b z : Int} (hd : Dn cc pc .irem 1 pc2) (ha : InR a) (hb0 : 0 < b) (hbr : InR b) (hz : a.tmod b = z) (kk : jX F G nL k n Q pc2 L (.inl z :: st) μ) : jX F G nL k n Q pc L (.inl b :: .inl a :: st) μ := by
  obtain ⟨p, l, e, R, s, m, args, below, meth, c⟩ := F
  obtain ⟨hx, hb, -⟩ := C
  obtain ⟨hd, rfl⟩ := hd
  subst hz
  intro H locs ls hw hS h
  exact lv_irem hx hb hd (zI_ne0 hbr (by omega)) (by rw [zI_rem ha hbr]; exact kk H locs ls hw hS h)
def zxor (a b : Int) : Int := (zI a ^^^ zI b).toInt
def zor (a b : Int) : Int := (zI a ||| zI b).toInt
def zand (a b : Int) : Int := (zI a &&& zI b).toInt
def zshl (a b : Int) : Int := (zI a <<< (zI b &&& 31)).toInt
def zshr (a b : Int) : Int := (zI a >>> (zI b &&& 31)).toInt
def zushr (a b : Int) : Int := ((zI a).toUInt32 >>> ((zI b).toUInt32 &&& Int32.toUInt32 31)).toInt32.toInt
theorem jx_ixor (C : Cx F G own cc nL ret) {a b : Int} (hd : Dn cc pc .ixor 1 pc2) (kk : jX F G nL k n Q pc2 L (.inl (zxor a b) :: st) μ) : jX F G nL k n Q pc L (.inl b :: .inl a :: st) μ := by
  obtain ⟨p, l, e, R, s, m, args, below, meth, c⟩ := F
  obtain ⟨hx, hb, -⟩ := C
  obtain ⟨hd, rfl⟩ := hd
  intro H locs ls hw hS h
  refine lv_ixor hx hb hd ?_
  have h2 := kk H locs ls hw hS h
  rw [show ((Sum.inl (zxor a b) : Sv) :: st).map vv = .int (zI (zI a ^^^ zI b).toInt) :: st.map vv from rfl, zI_of] at h2
  exact h2
theorem jx_ior (C : Cx F G own cc nL ret) {a b : Int} (hd : Dn cc pc .ior 1 pc2) (kk : jX F G nL k n Q pc2 L (.inl (zor a b) :: st) μ) : jX F G nL k n Q pc L (.inl b :: .inl a :: st) μ := by
  obtain ⟨p, l, e, R, s, m, args, below, meth, c⟩ := F
  obtain ⟨hx, hb, -⟩ := C
  obtain ⟨hd, rfl⟩ := hd
  intro H locs ls hw hS h
  refine lv_ior hx hb hd ?_
  have h2 := kk H locs ls hw hS h
  rw [show ((Sum.inl (zor a b) : Sv) :: st).map vv = .int (zI (zI a ||| zI b).toInt) :: st.map vv from rfl, zI_of] at h2
  exact h2
theorem jx_iand (C : Cx F G own cc nL ret) {a b : Int} (hd : Dn cc pc .iand 1 pc2) (kk : jX F G nL k n Q pc2 L (.inl (zand a b) :: st) μ) : jX F G nL k n Q pc L (.inl b :: .inl a :: st) μ := by
  obtain ⟨p, l, e, R, s, m, args, below, meth, c⟩ := F
  obtain ⟨hx, hb, -⟩ := C
  obtain ⟨hd, rfl⟩ := hd
  intro H locs ls hw hS h
  refine lv_iand hx hb hd ?_
  have h2 := kk H locs ls hw hS h
  rw [show ((Sum.inl (zand a b) : Sv) :: st).map vv = .int (zI (zI a &&& zI b).toInt) :: st.map vv from rfl, zI_of] at h2
  exact h2
theorem jx_ishl (C : Cx F G own cc nL ret) {a b : Int} (hd : Dn cc pc .ishl 1 pc2) (kk : jX F G nL k n Q pc2 L (.inl (zshl a b) :: st) μ) : jX F G nL k n Q pc L (.inl b :: .inl a :: st) μ := by
  obtain ⟨p, l, e, R, s, m, args, below, meth, c⟩ := F
  obtain ⟨hx, hb, -⟩ := C
  obtain ⟨hd, rfl⟩ := hd
  intro H locs ls hw hS h
  refine lv_ishl hx hb hd ?_
  have h2 := kk H locs ls hw hS h
  rw [show ((Sum.inl (zshl a b) : Sv) :: st).map vv = .int (zI (zI a <<< (zI b &&& 31)).toInt) :: st.map vv from rfl, zI_of] at h2
  exact h2
theorem jx_ishr (C : Cx F G own cc nL ret) {a b : Int} (hd : Dn cc pc .ishr 1 pc2) (kk : jX F G nL k n Q pc2 L (.inl (zshr a b) :: st) μ) : jX F G nL k n Q pc L (.inl b :: .inl a :: st) μ := by
  obtain ⟨p, l, e, R, s, m, args, below, meth, c⟩ := F
  obtain ⟨hx, hb, -⟩ := C
  obtain ⟨hd, rfl⟩ := hd
  intro H locs ls hw hS h
  refine lv_ishr hx hb hd ?_
  have h2 := kk H locs ls hw hS h
  rw [show ((Sum.inl (zshr a b) : Sv) :: st).map vv = .int (zI (zI a >>> (zI b &&& 31)).toInt) :: st.map vv from rfl, zI_of] at h2
  exact h2
theorem jx_iushr (C : Cx F G own cc nL ret) {a b : Int} (hd : Dn cc pc .iushr 1 pc2) (kk : jX F G nL k n Q pc2 L (.inl (zushr a b) :: st) μ) : jX F G nL k n Q pc L (.inl b :: .inl a :: st) μ := by
  obtain ⟨p, l, e, R, s, m, args, below, meth, c⟩ := F
  obtain ⟨hx, hb, -⟩ := C
  obtain ⟨hd, rfl⟩ := hd
  intro H locs ls hw hS h
  refine lv_iushr hx hb hd rfl ?_
  have h2 := kk H locs ls hw hS h
  rw [show ((Sum.inl (zushr a b) : Sv) :: st).map vv = .int (zI ((zI a).toUInt32 >>> ((zI b).toUInt32 &&& Int32.toUInt32 31)).toInt32.toInt) :: st.map vv from rfl, zI_of] at h2
  exact h2
theorem jx_dup (C : Cx F G own cc nL ret) {v : Sv} (hd : Dn cc pc .dup 1 pc2) (kk : jX F G nL k n Q pc2 L (v :: v :: st) μ) : jX F G nL k n Q pc L (v :: st) μ := by
  obtain ⟨p, l, e, R, s, m, args, below, meth, c⟩ := F
  obtain ⟨hx, hb, -⟩ := C
  obtain ⟨hd, rfl⟩ := hd
  intro H locs ls hw hS h
  exact lv_dup hx hb hd (vv_cat v) (kk H locs ls hw hS h)
theorem jx_dup2 (C : Cx F G own cc nL ret) {v w : Sv} (hd : Dn cc pc .dup2 1 pc2) (kk : jX F G nL k n Q pc2 L (v :: w :: v :: w :: st) μ) : jX F G nL k n Q pc L (v :: w :: st) μ := by
  obtain ⟨p, l, e, R, s, m, args, below, meth, c⟩ := F
  obtain ⟨hx, hb, -⟩ := C
  obtain ⟨hd, rfl⟩ := hd
  intro H locs ls hw hS h
  exact lv_dup2_11 hx hb hd (vv_cat v) (vv_cat w) (kk H locs ls hw hS h)
theorem jx_goto (C : Cx F G own cc nL ret) (hd : Dj cc pc .goto off 3 pc2 tgt) (kk : jX F G nL k n Q tgt L st μ) : jX F G nL k n Q pc L st μ := by
  obtain ⟨p, l, e, R, s, m, args, below, meth, c⟩ := F
  obtain ⟨hx, hb, -⟩ := C
  obtain ⟨hd, -, ht⟩ := hd
  intro H locs ls hw hS h
  exact lv_goto hx hb hd ht (kk H locs ls hw hS h)
theorem jx_icmp_lt (C : Cx F G own cc nL ret) {a b : Int} (hd : Dj cc pc (fun o => .if_icmp .lt o) off 3 pc2 tgt) (ha : InR a) (hb : InR b) (kt : a < b → jX F G nL k n Q tgt L st μ) (kf : ¬ a < b → jX F G nL k n Q pc2 L st μ) : jX F G nL k n Q pc L (.inl b :: .inl a :: st) μ := by
  obtain ⟨p, l, e, R, s, m, args, below, meth, c⟩ := F
  obtain ⟨hx, hbb, -⟩ := C
  obtain ⟨hd, rfl, ht⟩ := hd
  intro H locs ls hw hS h
  exact lv_icmp_lt hx hbb hd ht (fun q => kt (by rw [zI_lt ha hb] at q; exact q) H locs ls hw hS h) (fun q => kf (by rw [zI_lt ha hb] at q; exact q) H locs ls hw hS h)
theorem jx_if_lt (C : Cx F G own cc nL ret) {a : Int} (hd : Dj cc pc (fun o => .ifCond .lt o) off 3 pc2 tgt) (ha : InR a) (kt : a < 0 → jX F G nL k n Q tgt L st μ) (kf : ¬ a < 0 → jX F G nL k n Q pc2 L st μ) : jX F G nL k n Q pc L (.inl a :: st) μ := by
  obtain ⟨p, l, e, R, s, m, args, below, meth, c⟩ := F
  obtain ⟨hx, hbb, -⟩ := C
  obtain ⟨hd, rfl, ht⟩ := hd
  intro H locs ls hw hS h
  exact lv_if_lt hx hbb hd ht (fun q => kt (by rw [← zI_0, zI_lt ha (⟨by decide, by decide⟩ : InR 0)] at q; exact q) H locs ls hw hS h) (fun q => kf (by rw [← zI_0, zI_lt ha (⟨by decide, by decide⟩ : InR 0)] at q; exact q) H locs ls hw hS h)
theorem jx_icmp_ge (C : Cx F G own cc nL ret) {a b : Int} (hd : Dj cc pc (fun o => .if_icmp .ge o) off 3 pc2 tgt) (ha : InR a) (hb : InR b) (kt : b ≤ a → jX F G nL k n Q tgt L st μ) (kf : ¬ b ≤ a → jX F G nL k n Q pc2 L st μ) : jX F G nL k n Q pc L (.inl b :: .inl a :: st) μ := by
  obtain ⟨p, l, e, R, s, m, args, below, meth, c⟩ := F
  obtain ⟨hx, hbb, -⟩ := C
  obtain ⟨hd, rfl, ht⟩ := hd
  intro H locs ls hw hS h
  exact lv_icmp_ge hx hbb hd ht (fun q => kt (by rw [zI_le hb ha] at q; exact q) H locs ls hw hS h) (fun q => kf (by rw [zI_le hb ha] at q; exact q) H locs ls hw hS h)
theorem jx_if_ge (C : Cx F G own cc nL ret) {a : Int} (hd : Dj cc pc (fun o => .ifCond .ge o) off 3 pc2 tgt) (ha : InR a) (kt : 0 ≤ a → jX F G nL k n Q tgt L st μ) (kf : ¬ 0 ≤ a → jX F G nL k n Q pc2 L st μ) : jX F G nL k n Q pc L (.inl a :: st) μ := by
  obtain ⟨p, l, e, R, s, m, args, below, meth, c⟩ := F
  obtain ⟨hx, hbb, -⟩ := C
  obtain ⟨hd, rfl, ht⟩ := hd
  intro H locs ls hw hS h
  exact lv_if_ge hx hbb hd ht (fun q => kt (by rw [← zI_0, zI_le (⟨by decide, by decide⟩ : InR 0) ha] at q; exact q) H locs ls hw hS h) (fun q => kf (by rw [← zI_0, zI_le (⟨by decide, by decide⟩ : InR 0) ha] at q; exact q) H locs ls hw hS h)
theorem jx_icmp_gt (C : Cx F G own cc nL ret) {a b : Int} (hd : Dj cc pc (fun o => .if_icmp .gt o) off 3 pc2 tgt) (ha : InR a) (hb : InR b) (kt : b < a → jX F G nL k n Q tgt L st μ) (kf : ¬ b < a → jX F G nL k n Q pc2 L st μ) : jX F G nL k n Q pc L (.inl b :: .inl a :: st) μ := by
  obtain ⟨p, l, e, R, s, m, args, below, meth, c⟩ := F
  obtain ⟨hx, hbb, -⟩ := C
  obtain ⟨hd, rfl, ht⟩ := hd
  intro H locs ls hw hS h
  exact lv_icmp_gt hx hbb hd ht (fun q => kt (by rw [zI_lt hb ha] at q; exact q) H locs ls hw hS h) (fun q => kf (by rw [zI_lt hb ha] at q; exact q) H locs ls hw hS h)
theorem jx_if_gt (C : Cx F G own cc nL ret) {a : Int} (hd : Dj cc pc (fun o => .ifCond .gt o) off 3 pc2 tgt) (ha : InR a) (kt : 0 < a → jX F G nL k n Q tgt L st μ) (kf : ¬ 0 < a → jX F G nL k n Q pc2 L st μ) : jX F G nL k n Q pc L (.inl a :: st) μ := by
  obtain ⟨p, l, e, R, s, m, args, below, meth, c⟩ := F
  obtain ⟨hx, hbb, -⟩ := C
  obtain ⟨hd, rfl, ht⟩ := hd
  intro H locs ls hw hS h
  exact lv_if_gt hx hbb hd ht (fun q => kt (by rw [← zI_0, zI_lt (⟨by decide, by decide⟩ : InR 0) ha] at q; exact q) H locs ls hw hS h) (fun q => kf (by rw [← zI_0, zI_lt (⟨by decide, by decide⟩ : InR 0) ha] at q; exact q) H locs ls hw hS h)
theorem jx_icmp_le (C : Cx F G own cc nL ret) {a b : Int} (hd : Dj cc pc (fun o => .if_icmp .le o) off 3 pc2 tgt) (ha : InR a) (hb : InR b) (kt : a ≤ b → jX F G nL k n Q tgt L st μ) (kf : ¬ a ≤ b → jX F G nL k n Q pc2 L st μ) : jX F G nL k n Q pc L (.inl b :: .inl a :: st) μ := by
  obtain ⟨p, l, e, R, s, m, args, below, meth, c⟩ := F
  obtain ⟨hx, hbb, -⟩ := C
  obtain ⟨hd, rfl, ht⟩ := hd
  intro H locs ls hw hS h
  exact lv_icmp_le hx hbb hd ht (fun q => kt (by rw [zI_le ha hb] at q; exact q) H locs ls hw hS h) (fun q => kf (by rw [zI_le ha hb] at q; exact q) H locs ls hw hS h)
theorem jx_if_le (C : Cx F G own cc nL ret) {a : Int} (hd : Dj cc pc (fun o => .ifCond .le o) off 3 pc2 tgt) (ha : InR a) (kt : a ≤ 0 → jX F G nL k n Q tgt L st μ) (kf : ¬ a ≤ 0 → jX F G nL k n Q pc2 L st μ) : jX F G nL k n Q pc L (.inl a :: st) μ := by
  obtain ⟨p, l, e, R, s, m, args, below, meth, c⟩ := F
  obtain ⟨hx, hbb, -⟩ := C
  obtain ⟨hd, rfl, ht⟩ := hd
  intro H locs ls hw hS h
  exact lv_if_le hx hbb hd ht (fun q => kt (by rw [← zI_0, zI_le ha (⟨by decide, by decide⟩ : InR 0)] at q; exact q) H locs ls hw hS h) (fun q => kf (by rw [← zI_0, zI_le ha (⟨by decide, by decide⟩ : InR 0)] at q; exact q) H locs ls hw hS h)
theorem jx_icmp_eq (C : Cx F G own cc nL ret) {a b : Int} (hd : Dj cc pc (fun o => .if_icmp .eq o) off 3 pc2 tgt) (ha : InR a) (hb : InR b) (kt : a = b → jX F G nL k n Q tgt L st μ) (kf : ¬ a = b → jX F G nL k n Q pc2 L st μ) : jX F G nL k n Q pc L (.inl b :: .inl a :: st) μ := by
  obtain ⟨p, l, e, R, s, m, args, below, meth, c⟩ := F
  obtain ⟨hx, hbb, -⟩ := C
  obtain ⟨hd, rfl, ht⟩ := hd
  intro H locs ls hw hS h
  exact lv_icmp_eq hx hbb hd ht (fun q => kt (by rw [zI_eq ha hb] at q; exact q) H locs ls hw hS h) (fun q => kf (by rw [zI_eq ha hb] at q; exact q) H locs ls hw hS h)
theorem jx_if_eq (C : Cx F G own cc nL ret) {a : Int} (hd : Dj cc pc (fun o => .ifCond .eq o) off 3 pc2 tgt) (ha : InR a) (kt : a = 0 → jX F G nL k n Q tgt L st μ) (kf : ¬ a = 0 → jX F G nL k n Q pc2 L st μ) : jX F G nL k n Q pc L (.inl a :: st) μ := by
  obtain ⟨p, l, e, R, s, m, args, below, meth, c⟩ := F
  obtain ⟨hx, hbb, -⟩ := C
  obtain ⟨hd, rfl, ht⟩ := hd
  intro H locs ls hw hS h
  exact lv_if_eq hx hbb hd ht (fun q => kt (by rw [← zI_0, zI_eq ha (⟨by decide, by decide⟩ : InR 0)] at q; exact q) H locs ls hw hS h) (fun q => kf (by rw [← zI_0, zI_eq ha (⟨by decide, by decide⟩ : InR 0)] at q; exact q) H locs ls hw hS h)
theorem jx_icmp_ne (C : Cx F G own cc nL ret) {a b : Int} (hd : Dj cc pc (fun o => .if_icmp .ne o) off 3 pc2 tgt) (ha : InR a) (hb : InR b) (kt : ¬ a = b → jX F G nL k n Q tgt L st μ) (kf : a = b → jX F G nL k n Q pc2 L st μ) : jX F G nL k n Q pc L (.inl b :: .inl a :: st) μ := by
  obtain ⟨p, l, e, R, s, m, args, below, meth, c⟩ := F
  obtain ⟨hx, hbb, -⟩ := C
  obtain ⟨hd, rfl, ht⟩ := hd
  intro H locs ls hw hS h
  exact lv_icmp_ne hx hbb hd ht (fun q => kt (by rw [zI_eq ha hb] at q; exact q) H locs ls hw hS h) (fun q => kf (by rw [zI_eq ha hb] at q; exact q) H locs ls hw hS h)
theorem jx_if_ne (C : Cx F G own cc nL ret) {a : Int} (hd : Dj cc pc (fun o => .ifCond .ne o) off 3 pc2 tgt) (ha : InR a) (kt : ¬ a = 0 → jX F G nL k n Q tgt L st μ) (kf : a = 0 → jX F G nL k n Q pc2 L st μ) : jX F G nL k n Q pc L (.inl a :: st) μ := by
  obtain ⟨p, l, e, R, s, m, args, below, meth, c⟩ := F
  obtain ⟨hx, hbb, -⟩ := C
  obtain ⟨hd, rfl, ht⟩ := hd
  intro H locs ls hw hS h
  exact lv_if_ne hx hbb hd ht (fun q => kt (by rw [← zI_0, zI_eq ha (⟨by decide, by decide⟩ : InR 0)] at q; exact q) H locs ls hw hS h) (fun q => kf (by rw [← zI_0, zI_eq ha (⟨by decide, by decide⟩ : InR 0)] at q; exact q) H locs ls hw hS h)
theorem jx_tableIn (C : Cx F G own cc nL ret) {z dflt lo hi : Int} {offs : Array Int} {len : Nat} (hd : Dn cc pc (.tableswitch dflt lo hi offs) len pc2) (hz : InR z) (h1 : lo ≤ z) (h2 : z ≤ hi) (ho : offs[(z - lo).toNat]? = some off) (ht : (pc : Int) + off = (tgt : Int)) (kk : jX F G nL k n Q tgt L st μ) : jX F G nL k n Q pc L (.inl z :: st) μ := by
  obtain ⟨p, l, e, R, s, m, args, below, meth, c⟩ := F
  obtain ⟨hx, hbb, -⟩ := C
  obtain ⟨hd, rfl⟩ := hd
  intro H locs ls hw hS h
  exact lv_tableIn hx hbb hd (by rw [zI_toInt hz]; omega) (by rw [zI_toInt hz]; omega) (by rw [zI_toInt hz]; exact ho) ht (kk H locs ls hw hS h)
theorem jx_tableOut (C : Cx F G own cc nL ret) {z dflt lo hi : Int} {offs : Array Int} {len : Nat} (hd : Dn cc pc (.tableswitch dflt lo hi offs) len pc2) (hz : InR z) (h1 : z < lo ∨ hi < z) (ht : (pc : Int) + dflt = (tgt : Int)) (kk : jX F G nL k n Q tgt L st μ) : jX F G nL k n Q pc L (.inl z :: st) μ := by
  obtain ⟨p, l, e, R, s, m, args, below, meth, c⟩ := F
  obtain ⟨hx, hbb, -⟩ := C
  obtain ⟨hd, rfl⟩ := hd
  intro H locs ls hw hS h
  exact lv_tableOut hx hbb hd (by rw [zI_toInt hz]; exact h1) ht (kk H locs ls hw hS h)
theorem jx_lookup (C : Cx F G own cc nL ret) {z dflt : Int} {ps : Array (Int × Int)} {len : Nat} (hd : Dn cc pc (.lookupswitch dflt ps) len pc2) (hz : InR z) (hp : (ps.toList.zip (ps.toList.drop 1)).all (fun (a, next) => a.1 < next.1) = true) (ho : Op.lookupswitch.offset ps.toList dflt z = off) (ht : (pc : Int) + off = (tgt : Int)) (kk : jX F G nL k n Q tgt L st μ) : jX F G nL k n Q pc L (.inl z :: st) μ := by
  obtain ⟨p, l, e, R, s, m, args, below, meth, c⟩ := F
  obtain ⟨hx, hbb, -⟩ := C
  obtain ⟨hd, rfl⟩ := hd
  intro H locs ls hw hS h
  exact lv_lookup hx hbb hd hp (by rw [zI_toInt hz]; exact ho) ht (kk H locs ls hw hS h)
/-- the int on the top, by another name of the same number -/
theorem jx_top {a b : Int} (h : a = b) (kk : jX F G nL k n Q pc L (.inl b :: st) μ) : jX F G nL k n Q pc L (.inl a :: st) μ := by
  subst h; exact kk
theorem jx_nm {a : Int} (kk : ∀ b : Int, b = a → jX F G nL k n Q pc L (.inl b :: st) μ) : jX F G nL k n Q pc L (.inl a :: st) μ := kk a rfl
theorem jx_st {st' : List Sv} (h : st = st') (kk : jX F G nL k n Q pc L st' μ) : jX F G nL k n Q pc L st μ := by
  subst h; exact kk
theorem jx_lo (h : L = L') (kk : jX F G nL k n Q pc L' st μ) : jX F G nL k n Q pc L st μ := by
  subst h; exact kk
/-- fewer locals are known -/
theorem jx_fewer (h : ∀ (i : Nat) (v : Sv), L'[i]? = some (some v) → L[i]? = some (some v)) (kk : jX F G nL k n Q pc L' st μ) : jX F G nL k n Q pc L st μ := by
  obtain ⟨p, l, e, R, s, m, args, below, meth, c⟩ := F
  intro H locs ls hw hS hl
  refine kk H locs ls hw hS ⟨hl.1, hl.2.1, fun q hq => ?_⟩
  obtain ⟨j, w⟩ := q
  obtain ⟨u, -, h2, rfl⟩ := (vLi_mem L' 0 j w).mp hq
  exact vLi_at hl (h _ _ h2)
/-- a class's own table: its number, its words -/
def FT (ci : Nat) (Cn : String) (T : u_T) (N : Nat) (ty : Nat → FieldType) : Prop := jcls[ci]? = some (Cn, T, N) ∧ (∀ w ∈ u_ws Cn T N, w ∈ jws) ∧ (∀ j, j < N → parseFieldDescriptor (T j).2.2.1 = some (ty j)) ∧ (∀ a, a < N → ∀ b, b < N → a ≠ b → (T a).2.1 ≠ (T b).2.1)
theorem jx_get (C : Cx F G own cc nL ret) {q ci idx N : Nat} {Cn : String} {T : u_T} {ty : Nat → FieldType} {fs : List Value} (j : Nat) {v : Sv} (ft : FT ci Cn T N ty) (he : jcl G q (μ q) = .inr (ci, fs)) (hv : fs[j]? = some (vv v)) (hj : j < N) (hq : q < 96) (fl : Cond.fieldLink own idx (T j).1 (T j).2.1 (T j).2.2.1 ∈ jws) (hd : Dn cc pc (.getfield idx) 3 pc2) (kk : jX F G nL k n Q pc2 L (v :: st) μ) : jX F G nL k n Q pc L (.inr (ad G q) :: st) μ := by
  obtain ⟨p, l, e, R, s, m, args, below, meth, c⟩ := F
  obtain ⟨hx, hb, -, hown, hts, -, -, hK, -⟩ := C
  obtain ⟨hd, rfl⟩ := hd
  intro H locs ls hw hS h
  have hP : va_P (jD G) jcls [(ad G q, .inr (ci, fs))] H := by
    intro i x hi
    have := hw q hq
    rw [he] at this
    cases i with
    | zero => cases hi; exact this
    | succ i => simp at hi
  exact va_get (D := jD G) hx hb hts ft.2.1 hown hK hP 0 rfl ft.1 j hj (hts _ fl) (fun _ h9 => h9) hv hd (kk H locs ls hw hS h)
theorem jx_put (C : Cx F G own cc nL ret) {q ci idx N : Nat} {Cn : String} {T : u_T} {ty : Nat → FieldType} {fs : List Value} {z : Int} (j : Nat) (ft : FT ci Cn T N ty) (he : jcl G q (μ q) = .inr (ci, fs)) (he2 : jcl G q (fun t => if t = j then z else μ q t) = .inr (ci, fs.set j (.int (zI z)))) (hj : j < N) (hq : q < 96) (hfin : (T j).2.2.2 = false) (hty : ty j = .int ∨ (ty j = .boolean ∧ (z = 0 ∨ z = 1))) (hl : j < fs.length) (fl : Cond.fieldLink own idx (T j).1 (T j).2.1 (T j).2.2.1 ∈ jws) (hd : Dn cc pc (.putfield idx) 3 pc2) (kk : jX F G nL k n Q pc2 L st (jms μ q j z)) : jX F G nL k n Q pc L (.inl z :: .inr (ad G q) :: st) μ := by
  obtain ⟨p, l, e, R, s, m, args, below, meth, c⟩ := F
  obtain ⟨hx, hb, -, hown, hts, -, -, hK, -, -, hA⟩ := C
  obtain ⟨hd, rfl⟩ := hd
  intro H locs ls hw hS h
  have hq0 := hw q hq
  rw [he] at hq0
  have hnf : narrow (ty j) (.int (zI z)) = .int (zI z) ∧ fits (ty j) (.int (zI z)) = true := by
    rcases hty with h1 | ⟨h1, rfl | rfl⟩
    · rw [h1]; exact ⟨rfl, rfl⟩
    · rw [h1]; exact ⟨by decide +kernel, by decide +kernel⟩
    · rw [h1]; exact ⟨by decide +kernel, by decide +kernel⟩
  have hap := va_apart (own := own) hts ft.2.1 ty ft.2.2.1 ft.2.2.2 hK ft.1
  obtain ⟨r, h1, cell, q1, q2, q3, q4⟩ := hq0
  have hr : r = (Cn, T, N) := Option.some.inj (h1.symm.trans ft.1)
  subst hr
  obtain ⟨hSl, hfc, kC, hkC, hkind⟩ := hK.1 ci _ ft.1
  obtain ⟨cf, kf, fi, f, hi, hsl⟩ := hSl j hj
  have hlay := hts _ (ft.2.1 _ (u_in_lay hj))
  unfold u_lay at hlay
  rw [if_neg (by rw [hfin]; decide)] at hlay
  have hst := (u_facts hfc hkC (u_lays hts ft.2.1 hj) hi).1
  have h6 := u_store hfc hkC hkind hlay hi (ft.2.2.1 j hj) hnf.1 hnf.2
  refine W.putK hx hb (f := f) ⟨hown, hts _ fl, ⟨_, _, _, hi⟩, hst⟩ (by rw [q2]; exact h6) q1 q3 (by rw [hsl]; exact k2_hasslot (q4 j hj)) rfl rfl hd fun H' e1 e2 e3 => ?_
  rw [hsl] at e1 ⊢
  refine kk H' _ ls (jhw_put hw hA hq ?_ e3) (hS.put e2 e3 (hA.2 q hq)) h
  rw [he2]
  exact ⟨_, ft.1, t_OB.to (V := updV (vp_V fs) j (.int (zI z))) ⟨_, e1, q2, q3, t_set q4 hap hj _⟩ (fun i _ => vp_updV_set hl _ i)⟩
theorem jx_iald (C : Cx F G own cc nL ret) {q N : Nat} {i : Int} (he : jcl G q (μ q) = jia G N (μ q)) (hq : q < 96) (h0 : 0 ≤ i) (h1 : i < N) (hN : N < 2147483648) (hd : Dn cc pc .iaload 1 pc2) (kk : jX F G nL k n Q pc2 L (.inl (μ q i.toNat) :: st) μ) : jX F G nL k n Q pc L (.inl i :: .inr (ad G q) :: st) μ := by
  obtain ⟨p, l, e, R, s, m, args, below, meth, c⟩ := F
  obtain ⟨hx, hb, -, hown, hts, -, -, hK, -⟩ := C
  obtain ⟨hd, rfl⟩ := hd
  intro H locs ls hw hS h
  have hP : va_P (jD G) jcls [(ad G q, jia G N (μ q))] H := by
    intro x y hx
    have := hw q hq
    rw [he] at this
    cases x with
    | zero => cases hx; exact this
    | succ x => simp at hx
  refine va_iald (D := jD G) (tys := jtys G) hx hb hK hP 0 0 rfl rfl (zI_vpin h0 h1 hN) hd ?_
  rw [zI_clamp ⟨by omega, by omega⟩]
  exact kk H locs ls hw hS h
theorem jx_iast (C : Cx F G own cc nL ret) {q N : Nat} {i z : Int} (he : jcl G q (μ q) = jia G N (μ q)) (he2 : jcl G q (fun t => if t = i.toNat then z else μ q t) = jia G N (fun t => if t = i.toNat then z else μ q t)) (hq : q < 96) (h0 : 0 ≤ i) (h1 : i < N) (hN : N < 2147483648) (hd : Dn cc pc .iastore 1 pc2) (kk : jX F G nL k n Q pc2 L st (jms μ q i.toNat z)) : jX F G nL k n Q pc L (.inl z :: .inl i :: .inr (ad G q) :: st) μ := by
  obtain ⟨p, l, e, R, s, m, args, below, meth, c⟩ := F
  obtain ⟨hx, hb, -, hown, hts, -, -, hK, -, -, hA⟩ := C
  obtain ⟨hd, rfl⟩ := hd
  intro H locs ls hw hS h
  have hq0 : H[ad G q]? = some (vp_cell (jI G) (N, .inl (fun t => zI (μ q t)))) := by
    have := hw q hq
    rw [he] at this
    exact this
  have hir : InR i := ⟨by omega, by omega⟩
  refine W.iast hx hb hq0 ((hK.2 0 _ rfl).1 N (fun j => .int (zI (μ q j)))) (fun q => by cases q) (by show ¬ (zI i < 0 ∨ (arrV _ _ _).slots.size ≤ _); rw [arrV_size]; exact zI_vpin h0 h1 hN) rfl rfl hd fun H1 e z0 oq => ?_
  refine kk H1 _ ls (jhw_put hw hA hq ?_ oq) (hS.put z0 oq (hA.2 q hq)) h
  rw [he2]
  show H1[ad G q]? = some (vp_cell _ _)
  rw [e, vp_cell_i, vp_cell_i, arrV_store]
  congr 2
  funext t
  rw [zI_clamp hir]
  by_cases ht : t = i.toNat
  · subst ht
    simp [updV]
  · simp [updV, ht]
theorem jx_aald (C : Cx F G own cc nL ret) {q N b t0 : Nat} {cA : ClassId} {Cn : String} {i : Int} {p' : Nat} (he : jcl G q (μ q) = jqa cA N (fun t => ad G (b + t))) (ht : (jtys G)[t0]? = some (cA, .object Cn)) (hq : q < 96) (hi : i = (p' : Int)) (h1 : p' < N) (hN : N < 2147483648) (hd : Dn cc pc .aaload 1 pc2) (kk : jX F G nL k n Q pc2 L (.inr (ad G (b + p')) :: st) μ) : jX F G nL k n Q pc L (.inl i :: .inr (ad G q) :: st) μ := by
  obtain ⟨p, l, e, R, s, m, args, below, meth, c⟩ := F
  obtain ⟨hx, hb, -, hown, hts, -, -, hK, -⟩ := C
  obtain ⟨hd, rfl⟩ := hd
  subst hi
  intro H locs ls hw hS h
  have hP : va_P (jD G) jcls [(ad G q, jqa cA N (fun t => ad G (b + t)))] H := by
    intro x y hx
    have := hw q hq
    rw [he] at this
    cases x with
    | zero => cases hx; exact this
    | succ x => simp at hx
  refine va_aldq (D := jD G) (tys := jtys G) hx hb hK hP 0 t0 rfl ht (zI_vpin (by omega) (by omega) hN) hd ?_
  rw [zI_clamp ⟨by omega, by omega⟩]
  exact kk H locs ls hw hS h
theorem jx_alen (C : Cx F G own cc nL ret) {q N : Nat} (he : jcl G q (μ q) = jia G N (μ q)) (hq : q < 96) (hd : Dn cc pc .arraylength 1 pc2) (kk : jX F G nL k n Q pc2 L (.inl (N : Int) :: st) μ) : jX F G nL k n Q pc L (.inr (ad G q) :: st) μ := by
  obtain ⟨p, l, e, R, s, m, args, below, meth, c⟩ := F
  obtain ⟨hx, hb, -, hown, hts, -, -, hK, -⟩ := C
  obtain ⟨hd, rfl⟩ := hd
  intro H locs ls hw hS h
  have hP : va_P (jD G) jcls [(ad G q, jia G N (μ q))] H := by
    intro x y hx
    have := hw q hq
    rw [he] at this
    cases x with
    | zero => cases hx; exact this
    | succ x => simp at hx
  exact va_alen (D := jD G) (tys := jtys G) hx hb hK hP 0 0 rfl rfl (v := zI (N : Int)) (by unfold zI; rw [Int32.ofInt_eq_ofNat]) hd (kk H locs ls hw hS h)
theorem jx_gsx (C : Cx F G own cc nL ret) {idx : Nat} (fl : Cond.fieldLink own idx RX1 "WAYS_X" "[I" ∈ jws) (hd : Dn cc pc (.getstatic idx) 3 pc2) (kk : jX F G nL k n Q pc2 L (.inr (jwx G) :: st) μ) : jX F G nL k n Q pc L st μ := by
  obtain ⟨p, l, e, R, s, m, args, below, meth, c⟩ := F
  obtain ⟨hx, hb, -, hown, hts, -, -, hK, hZ, -⟩ := C
  obtain ⟨hd, rfl⟩ := hd
  intro H locs ls hw hS h
  exact va_gets hx hb hZ.1 hS hown (hts _ fl) (fun _ h => h) hd (kk H locs ls hw hS h)
theorem jx_gsy (C : Cx F G own cc nL ret) {idx : Nat} (fl : Cond.fieldLink own idx RX1 "WAYS_Y" "[I" ∈ jws) (hd : Dn cc pc (.getstatic idx) 3 pc2) (kk : jX F G nL k n Q pc2 L (.inr (jwy G) :: st) μ) : jX F G nL k n Q pc L st μ := by
  obtain ⟨p, l, e, R, s, m, args, below, meth, c⟩ := F
  obtain ⟨hx, hb, -, hown, hts, -, -, hK, hZ, -⟩ := C
  obtain ⟨hd, rfl⟩ := hd
  intro H locs ls hw hS h
  exact va_gets hx hb hZ.2.1 hS hown (hts _ fl) (fun _ h => h) hd (kk H locs ls hw hS h)
theorem jx_tx (C : Cx F G own cc nL ret) {i : Int} (h0 : 0 ≤ i) (h1 : i < 4) (hd : Dn cc pc .iaload 1 pc2) (kk : jX F G nL k n Q pc2 L (.inl (if i = 1 then 0 else 1) :: st) μ) : jX F G nL k n Q pc L (.inl i :: .inr (jwx G) :: st) μ := by
  obtain ⟨p, l, e, R, s, m, args, below, meth, c⟩ := F
  obtain ⟨hx, hb, -, hown, hts, -, -, hK, hZ, -⟩ := C
  obtain ⟨hd, rfl⟩ := hd
  intro H locs ls hw hS h
  refine va_ti hx hb hZ.2.2.1 hS (zI_vpin h0 (by omega) (by decide)) ?_ hd (kk H locs ls hw hS h)
  rw [zI_clamp ⟨by omega, by omega⟩]
  show Value.int (zI (if i.toNat = 1 then 0 else 1)) = Value.int (zI (if i = 1 then 0 else 1))
  by_cases h : i = 1
  · rw [if_pos h, if_pos (by omega)]
  · rw [if_neg h, if_neg (by omega)]
theorem jx_ty (C : Cx F G own cc nL ret) {i : Int} (h0 : 0 ≤ i) (h1 : i < 4) (hd : Dn cc pc .iaload 1 pc2) (kk : jX F G nL k n Q pc2 L (.inl (if i = 0 then 0 else if i = 3 then -1 else 1) :: st) μ) : jX F G nL k n Q pc L (.inl i :: .inr (jwy G) :: st) μ := by
  obtain ⟨p, l, e, R, s, m, args, below, meth, c⟩ := F
  obtain ⟨hx, hb, -, hown, hts, -, -, hK, hZ, -⟩ := C
  obtain ⟨hd, rfl⟩ := hd
  intro H locs ls hw hS h
  refine va_ti hx hb hZ.2.2.2.1 hS (zI_vpin h0 (by omega) (by decide)) ?_ hd (kk H locs ls hw hS h)
  rw [zI_clamp ⟨by omega, by omega⟩]
  show Value.int (zI (if i.toNat = 0 then 0 else if i.toNat = 3 then -1 else 1)) = Value.int (zI (if i = 0 then 0 else if i = 3 then -1 else 1))
  by_cases h : i = 0
  · rw [if_pos h, if_pos (by omega)]
  · rw [if_neg h, if_neg (by omega)]
    by_cases h : i = 3
    · rw [if_pos h, if_pos (by omega)]
    · rw [if_neg h, if_neg (by omega)]
theorem jx_tlen (C : Cx F G own cc nL ret) (w : Bool) (hd : Dn cc pc .arraylength 1 pc2) (kk : jX F G nL k n Q pc2 L (.inl 4 :: st) μ) : jX F G nL k n Q pc L (.inr (if w then jwx G else jwy G) :: st) μ := by
  obtain ⟨p, l, e, R, s, m, args, below, meth, c⟩ := F
  obtain ⟨hx, hb, -, hown, hts, -, -, hK, hZ, -⟩ := C
  obtain ⟨hd, rfl⟩ := hd
  intro H locs ls hw hS h
  cases w
  · exact va_tlen hx hb hZ.2.2.2.1 hS (v := zI 4) (by decide +kernel) hd (kk H locs ls hw hS h)
  · exact va_tlen hx hb hZ.2.2.1 hS (v := zI 4) (by decide +kernel) hd (kk H locs ls hw hS h)
end JX
end
section
/-! contracts over the world, and the calls -/
theorem jZs.same {G : GT} {u U : State} {H : Heap} (h : u.vm = U.vm) (hZ : jZs G u H) : jZs G U H := by
  have hv : u.vm.Alike U.vm := h ▸ Vm.Alike.refl _
  exact ⟨va_Z.moved hv hZ.1, va_Z.moved hv hZ.2.1, va_T.moved hv hZ.2.2.1, va_T.moved hv hZ.2.2.2.1, va_Nw.same rfl h hZ.2.2.2.2⟩
theorem jblind (G : GT) (μ : Mem) (av : List Value) : FrameBlind (va_Pc av (jWd G μ)) := by
  intro a U g mk h
  obtain ⟨h1, h2, h3, h4, h5⟩ := h
  exact ⟨h1, h2, va_K.moved (u := U) (U := U.calling g mk a) (Vm.Alike.refl U.vm) h3, jZs.same (u := U) (U := U.calling g mk a) rfl h4, h5⟩
def jl (F : FrT) : Launch := F.2.1
def jR (F : FrT) : Room := F.2.2.2.1
def Cy (F : FrT) (l : Launch) (rm : Room) : Prop := jl F = l ∧ jR F = rm
def jQi (G : GT) (post : Int → Mem → Prop) : Array Value → State → Outcome → State → Prop := va_Qi (fun (r : Int32) (μ' : Mem) => ∃ z, r = zI z ∧ post z μ') (fun μ' t => jWd G μ' t) (jA G)
def jQv (G : GT) (post : Mem → Prop) : Array Value → State → Outcome → State → Prop := va_Qv post (fun μ' t => jWd G μ' t) (jA G)
def jQr (G : GT) (post : Nat → Mem → Prop) : Array Value → State → Outcome → State → Prop := va_Qr (fun _ : Mem => True) (fun μ' a t => jWd G μ' t ∧ post a μ') (jA G)
def MI (l : Launch) (y : MethodName) (cc : ByteArray) (mL : Nat) (rt : FieldType) (rm : Room) (G : GT) (as : List Sv) (μ : Mem) (post : Int → Mem → Prop) : Prop := jadOK G → Met l y (.code y cc mL (some rt) :: jws) rm (va_Pc (as.map vv) (jWd G μ)) (jQi G post) 0 0 (jA G)
def MV (l : Launch) (y : MethodName) (cc : ByteArray) (mL : Nat) (rm : Room) (G : GT) (as : List Sv) (μ : Mem) (post : Mem → Prop) : Prop := jadOK G → Met l y (.code y cc mL none :: jws) rm (va_Pc (as.map vv) (jWd G μ)) (jQv G post) 0 0 (jA G)
def MR (l : Launch) (y : MethodName) (cc : ByteArray) (mL : Nat) (rt : FieldType) (rm : Room) (G : GT) (as : List Sv) (μ : Mem) (post : Nat → Mem → Prop) : Prop := jadOK G → Met l y (.code y cc mL (some rt) :: jws) rm (va_Pc (as.map vv) (jWd G μ)) (jQr G post) 0 0 (jA G)
def jE (F : FrT) (G : GT) (Qc : Array Value → State → Outcome → State → Prop) : State → Prop := match F with
  | (_, _, _, _, s, _, args, below, _, _) => MQ below Qc args s 0 0 (jA G)
def jini (as : List Sv) (mL : Nat) : List (Option Sv) := as.map some ++ List.replicate (mL - as.length) none
theorem jof {l : Launch} {y : MethodName} {cc : ByteArray} {mL : Nat} {ret : Option FieldType} {rm : Room} {G : GT} {as : List Sv} {μ : Mem} {Qc : Array Value → State → Outcome → State → Prop} (hy : plainName y.cls = true) (hn : as.length ≤ mL) (hA : jadOK G)
    (body : ∀ F : FrT, Cx F G y.cls cc mL ret → Cy F l rm → jX F G mL 0 0 (jE F G Qc) 0 (jini as mL) [] μ) : Met l y (.code y cc mL ret :: jws) rm (va_Pc (as.map vv) (jWd G μ)) Qc 0 0 (jA G) := by
  refine Met.ofW (cc := cc) (maxL := mL) (ret := ret) hy rfl ?_
  intro p e s m args below meth c s₁ B hml hv
  obtain ⟨rfl, hw, hK, hZ, hz⟩ := hv
  have hts := atoms_spec (ws := Cond.code y cc mL ret :: jws) B.pre
  have hown : s.vm.findClass y.cls = some m.cls := findClass_of_methodNamed B.named
  have hl := lv_entry (as.map vv) (n := mL) (by rw [lg_sl_vv]; exact hn)
  rw [lg_entry_eq]
  rw [vLi_entry as 0 (mL - as.length)] at hl
  exact body (p, l, e, rm, s, m, (as.map vv).toArray, below, meth, c) ⟨B.exec, B.bytes, hml, hown, fun w h => hts w (List.mem_cons_of_mem _ h), B.returns, B.notSynchronized, hK, hZ, hz, hA⟩ ⟨rfl, rfl⟩ s.heap [] _ hw va_S.rf hl
theorem MI.of {l : Launch} {y : MethodName} {cc : ByteArray} {mL : Nat} {rt : FieldType} {rm : Room} {G : GT} {as : List Sv} {μ : Mem} {post : Int → Mem → Prop} (hy : plainName y.cls = true) (hn : as.length ≤ mL)
    (body : ∀ F : FrT, Cx F G y.cls cc mL (some rt) → Cy F l rm → jX F G mL 0 0 (jE F G (jQi G post)) 0 (jini as mL) [] μ) : MI l y cc mL rt rm G as μ post := fun hA => jof hy hn hA body
theorem MV.of {l : Launch} {y : MethodName} {cc : ByteArray} {mL : Nat} {rm : Room} {G : GT} {as : List Sv} {μ : Mem} {post : Mem → Prop} (hy : plainName y.cls = true) (hn : as.length ≤ mL)
    (body : ∀ F : FrT, Cx F G y.cls cc mL none → Cy F l rm → jX F G mL 0 0 (jE F G (jQv G post)) 0 (jini as mL) [] μ) : MV l y cc mL rm G as μ post := fun hA => jof hy hn hA body
theorem MR.of {l : Launch} {y : MethodName} {cc : ByteArray} {mL : Nat} {rt : FieldType} {rm : Room} {G : GT} {as : List Sv} {μ : Mem} {post : Nat → Mem → Prop} (hy : plainName y.cls = true) (hn : as.length ≤ mL)
    (body : ∀ F : FrT, Cx F G y.cls cc mL (some rt) → Cy F l rm → jX F G mL 0 0 (jE F G (jQr G post)) 0 (jini as mL) [] μ) : MR l y cc mL rt rm G as μ post := fun hA => jof hy hn hA body
section JR
variable {F : FrT} {G : GT} {own : String} {cc : ByteArray} {nL k n : Nat} {ret : Option FieldType} {Q : State → Prop} {pc pc2 tgt : Nat} {L L' : List (Option Sv)} {st stk : List Sv} {μ : Mem} {l : Launch} {rm : Room}
theorem jWd_end {G : GT} {μ : Mem} {s t : State} {H : Heap} {locs : List Loc} (hK : va_K (jD G) jcls (jtys G) s) (hZ : jZs G s s.heap) (hz : jz G ≤ s.heap.size) (hw : jhw G μ H) (hS : va_S (jA G) s.heap H locs) (ht : t.heap = H) (hW : s.WarmedH t.vm) : jWd G μ t := by
  subst ht
  exact ⟨hw, va_K.moved hW.alike hK, jZs.moved hW (jZs.kept hZ (fun a h1 h2 => hS.2.1 a h1 h2)), Nat.le_trans hz hS.1⟩
theorem jx_iret {post : Int → Mem → Prop} (C : Cx F G own cc nL (some .int)) {z : Int} (hd : Dn cc pc .ireturn 1 pc2) (h : post z μ) : jX F G nL 0 0 (jE F G (jQi G post)) pc L [.inl z] μ := by
  obtain ⟨p, l, e, R, s, m, args, below, meth, c⟩ := F
  obtain ⟨hx, hb, -, hown, hts, hr, hlk, hK, hZ, hz, -⟩ := C
  obtain ⟨hd, rfl⟩ := hd
  intro H locs ls hw hS hl
  exact W.iret (v := zI z) hx hb hr (fun t ht hW => ⟨⟨zI z, μ, rfl, ⟨z, rfl, h⟩, jWd_end hK hZ hz hw hS ht hW⟩, hS.F ht⟩) hS.2.2 hd hlk
theorem jx_zret {post : Int → Mem → Prop} (C : Cx F G own cc nL (some .boolean)) {z : Int} (hd : Dn cc pc .ireturn 1 pc2) (hz01 : z = 0 ∨ z = 1) (h : post z μ) : jX F G nL 0 0 (jE F G (jQi G post)) pc L [.inl z] μ := by
  obtain ⟨p, l, e, R, s, m, args, below, meth, c⟩ := F
  obtain ⟨hx, hb, -, hown, hts, hr, hlk, hK, hZ, hz, -⟩ := C
  obtain ⟨hd, rfl⟩ := hd
  intro H locs ls hw hS hl
  have hn : narrow .boolean (.int (zI z)) = .int (zI z) := by
    rcases hz01 with rfl | rfl
    · decide +kernel
    · decide +kernel
  exact W.zret (v := zI z) hx hb hr hn (fun t ht hW => ⟨⟨zI z, μ, rfl, ⟨z, rfl, h⟩, jWd_end hK hZ hz hw hS ht hW⟩, hS.F ht⟩) hS.2.2 hd hlk
theorem jx_vret {post : Mem → Prop} (C : Cx F G own cc nL none) (hd : Dn cc pc .return_ 1 pc2) (h : post μ) : jX F G nL 0 0 (jE F G (jQv G post)) pc L [] μ := by
  obtain ⟨p, l, e, R, s, m, args, below, meth, c⟩ := F
  obtain ⟨hx, hb, -, hown, hts, hr, hlk, hK, hZ, hz, -⟩ := C
  obtain ⟨hd, rfl⟩ := hd
  intro H locs ls hw hS hl
  exact W.vret hx hb hr (fun t ht hW => ⟨⟨μ, rfl, h, jWd_end hK hZ hz hw hS ht hW⟩, hS.F ht⟩) hS.2.2 hd hlk
theorem jx_aret {post : Nat → Mem → Prop} {on : String} (C : Cx F G own cc nL (some (.object on))) {a : Nat} (hd : Dn cc pc .areturn 1 pc2) (h : post a μ) : jX F G nL 0 0 (jE F G (jQr G post)) pc L [.inr a] μ := by
  obtain ⟨p, l, e, R, s, m, args, below, meth, c⟩ := F
  obtain ⟨hx, hb, -, hown, hts, hr, hlk, hK, hZ, hz, -⟩ := C
  obtain ⟨hd, rfl⟩ := hd
  intro H locs ls hw hS hl
  exact W.aret (v := .ref a) hx hb hr (Or.inl ⟨on, rfl⟩) (Or.inr ⟨a, rfl⟩) (fun t ht hW => ⟨⟨μ, a, rfl, trivial, jWd_end hK hZ hz hw hS ht hW, h⟩, hS.F ht⟩) hS.2.2 hd hlk
def YB (y : MethodName) (cc : ByteArray) (mL : Nat) (r : Option FieldType) (na : Nat) : Prop := Cond.code y cc mL r ∈ jws ∧ Cond.initialized y.cls ∈ jws ∧ y.cls ≠ "java/lang/invoke/MethodHandle" ∧ y.cls ≠ "java/lang/invoke/VarHandle" ∧ (parseMethodDescriptor y.desc).map (fun d => d.parameters.length) = some na
def YV (y : MethodName) : Prop := Cond.instanceMethod y ∈ jws ∧ Cond.selects y.cls y y ∈ jws
def Rok (rm rmy : Room) (mL k n : Nat) : Prop := (rmy.cells = 0 ∧ rmy.slots = 0 ∧ rmy.frames + 1 ≤ rm.frames ∧ 8 + (mL + 11) + rmy.locals ≤ rm.locals) ∧ k ≤ rm.cells ∧ n ≤ rm.slots
theorem jcat : ∀ st : List Sv, ((st.map vv).map fun v => v.category).sum = st.length
  | [] => rfl
  | v :: st => by
    rw [List.map_cons, List.map_cons, List.sum_cons, jcat st, vv_cat, List.length_cons]; omega
/-- the run of a call, of the three kinds -/
def jRun (F : FrT) (G : GT) (nL k n : Nat) (pc : Nat) (L : List (Option Sv)) (stk st : List Sv) (μ : Mem) (Qa : State → Outcome → State → Prop) : Prop := match F with
  | (p, l, e, R, s, m, args, below, meth, c) => ∀ (H : Heap) (locs : List Loc) (ls : Array Slot), jhw G μ H → va_S (jA G) s.heap H locs → lv_has ls nL (vLi 0 L) → va_Run p l e R s m args below meth c H locs k n 0 0 (F0 m pc ls (stk.map vv)) (st.map vv) Qa (jA G)
theorem jrunV (C : Cx F G own cc nL ret) (Y : Cy F l rm) {y : MethodName} {ccy : ByteArray} {mL na idx q ci N : Nat} {r : Option FieldType} {rmy : Room} {as : List Sv} {Qc : Array Value → State → Outcome → State → Prop} {T : u_T} {fs : List Value} (hM : Met l y (.code y ccy mL r :: jws) rmy (va_Pc ((.inr (ad G q) :: as : List Sv).map vv) (jWd G μ)) Qc 0 0 (jA G)) (B : YB y ccy mL r na) (V : YV y) (hl : Cond.methodLink own idx y ∈ jws) (he : jcl G q (μ q) = .inr (ci, fs)) (hc : jcls[ci]? = some (y.cls, T, N)) (hq : q < 96) (hn : as.length = na) (hs : stk = as.reverse ++ .inr (ad G q) :: st) (hst : st.length ≤ 8) (hr : Rok rm rmy mL k n) (hd : Dn cc pc (.invokevirtual idx) 3 pc2) : jRun F G nL k n pc L stk st μ (Qc (((.inr (ad G q) :: as : List Sv).map vv).toArray)) := by
  obtain ⟨p, l, e, R, s, m, args, below, meth, c⟩ := F
  obtain ⟨hx, hb, hml, hown, hts, -, -, hK, hZ, hz, -⟩ := C
  obtain ⟨rfl, rfl⟩ := Y
  obtain ⟨hd, rfl⟩ := hd
  subst hs
  intro H locs ls hw hS h
  have hP : va_P (jD G) jcls [(ad G q, .inr (ci, fs))] H := by
    intro x y hx
    have := hw q hq
    rw [he] at this
    cases x with
    | zero => cases hx; exact this
    | succ x => simp at hx
  have key : ∀ U : State, U.heap = H → s.WarmedH U.vm → jWd G μ U := fun U hU hW => jWd_end hK hZ hz hw hS hU hW
  refine va_runV (As := as.map vv) (nL := nL) (n := na) (C := y.cls) (b := ad G q) (bytes := ccy) (maxL := mL) (ret := r) ⟨hx, hb, hml, hown, hts⟩ hM ⟨callB_of na hts (jgood y ccy mL r B.1) rfl hr.1.1 hr.1.2.1 (hts _ B.2.1) (hts _ hl) B.2.2 ⟨hr.1.2.2.1, hr.1.2.2.2⟩, hts _ V.1, hts _ V.2⟩ ⟨jblind G μ _, va_recv hK hP hc (q0 := 0) rfl, fun U hU hW => ⟨rfl, key U hU hW⟩⟩ rfl (by rw [List.length_map]; exact hn) h.1 ?_ (lv_room (by rw [jcat]; exact hst)) hd ⟨by rw [Nat.add_zero]; exact hr.2.1, by rw [Nat.add_zero]; exact hr.2.2⟩
  show (as.reverse ++ Sum.inr (ad G q) :: st).map vv = _
  rw [List.map_append, List.map_reverse]
  rfl
theorem jrunS (C : Cx F G own cc nL ret) (Y : Cy F l rm) {y : MethodName} {ccy : ByteArray} {mL na idx : Nat} {r : Option FieldType} {rmy : Room} {as : List Sv} {Qc : Array Value → State → Outcome → State → Prop} (hM : Met l y (.code y ccy mL r :: jws) rmy (va_Pc (as.map vv) (jWd G μ)) Qc 0 0 (jA G)) (B : YB y ccy mL r na) (V : Cond.static y ∈ jws) (hl : Cond.methodLink own idx y ∈ jws) (hn : as.length = na) (hs : stk = as.reverse ++ st) (hst : st.length ≤ 8) (hr : Rok rm rmy mL k n) (hd : Dn cc pc (.invokestatic idx) 3 pc2) : jRun F G nL k n pc L stk st μ (Qc ((as.map vv).toArray)) := by
  obtain ⟨p, l, e, R, s, m, args, below, meth, c⟩ := F
  obtain ⟨hx, hb, hml, hown, hts, -, -, hK, hZ, hz, -⟩ := C
  obtain ⟨rfl, rfl⟩ := Y
  obtain ⟨hd, rfl⟩ := hd
  subst hs
  intro H locs ls hw hS h
  have key : ∀ U : State, U.heap = H → s.WarmedH U.vm → jWd G μ U := fun U hU hW => jWd_end hK hZ hz hw hS hU hW
  refine va_runS (As := as.map vv) (nL := nL) (n := na) (bytes := ccy) (maxL := mL) (ret := r) ⟨hx, hb, hml, hown, hts⟩ hM ⟨callB_of na hts (jgood y ccy mL r B.1) rfl hr.1.1 hr.1.2.1 (hts _ B.2.1) (hts _ hl) B.2.2 ⟨hr.1.2.2.1, hr.1.2.2.2⟩, hts _ V⟩ ⟨jblind G μ _, fun U hU hW => ⟨rfl, key U hU hW⟩⟩ rfl (by rw [List.length_map]; exact hn) h.1 ?_ (lv_room (by rw [jcat]; exact hst)) hd ⟨by rw [Nat.add_zero]; exact hr.2.1, by rw [Nat.add_zero]; exact hr.2.2⟩
  show (as.reverse ++ st).map vv = _
  rw [List.map_append, List.map_reverse]
/-- PictureJoin.within, called from Dots -/
theorem jrunW (C : Cx F G "PictureJoin$Dots" cc nL ret) (Y : Cy F l rm) {ccy : ByteArray} {mL na : Nat} {r : Option FieldType} {rmy : Room} {as : List Sv} {Qc : Array Value → State → Outcome → State → Prop} (hM : Met l jwin (.code jwin ccy mL r :: jws) rmy (va_Pc (as.map vv) (jWd G μ)) Qc 0 0 (jA G)) (B : YB jwin ccy mL r na) (V : Cond.static jwin ∈ jws) (hn : as.length = na) (hs : stk = as.reverse ++ st) (hst : st.length ≤ 8) (hr : Rok rm rmy mL k n) (hd : Dn cc pc (.invokestatic 39) 3 pc2) : jRun F G nL k n pc L stk st μ (Qc ((as.map vv).toArray)) := by
  obtain ⟨p, l, e, R, s, m, args, below, meth, c⟩ := F
  obtain ⟨hx, hb, hml, hown, hts, -, -, hK, hZ, hz, -⟩ := C
  obtain ⟨rfl, rfl⟩ := Y
  obtain ⟨hd, rfl⟩ := hd
  subst hs
  intro H locs ls hw hS h
  have key : ∀ U : State, U.heap = H → s.WarmedH U.vm → jWd G μ U := fun U hU hW => jWd_end hK hZ hz hw hS hU hW
  refine va_runSN (host := "PictureJoin") (As := as.map vv) (nL := nL) (n := na) (bytes := ccy) (maxL := mL) (ret := r) ⟨hx, hb, hml, hown, hts⟩ hM ⟨va_cnB na hts (jgood jwin ccy mL r B.1) rfl hr.1.1 hr.1.2.1 hZ.2.2.2.2 (hts _ B.2.1) B.2.2 ⟨hr.1.2.2.1, hr.1.2.2.2⟩, hts _ V, trivial⟩ ⟨jblind G μ _, fun U hU hW => ⟨rfl, key U hU hW⟩⟩ rfl (by rw [List.length_map]; exact hn) h.1 ?_ (lv_room (by rw [jcat]; exact hst)) hd ⟨by rw [Nat.add_zero]; exact hr.2.1, by rw [Nat.add_zero]; exact hr.2.2⟩
  show (as.reverse ++ st).map vv = _
  rw [List.map_append, List.map_reverse]
theorem jx_ri (C : Cx F G own cc nL ret) {post : Int → Mem → Prop} {a : Array Value} (R : jRun F G nL k n pc L stk st μ (jQi G post a)) (kk : ∀ (z : Int) (μ' : Mem), post z μ' → jX F G nL k n Q (pc + 3) L (.inl z :: st) μ') : jX F G nL k n Q pc L stk μ := by
  obtain ⟨p, l, e, R, s, m, args, below, meth, c⟩ := F
  intro H locs ls hw hS h
  refine va_calli (R H locs ls hw hS h) hS (fun q _ h => h) (fun q h => h) (fun r u t H1 locs1 ht hvm hp hB hz1 hk1 hS1 => ?_)
  obtain ⟨z, rfl, hp⟩ := hp
  exact kk z u hp H1 locs1 ls (by rw [← ht]; exact hB.1) hS1 h
theorem jx_rv (C : Cx F G own cc nL ret) {post : Mem → Prop} {a : Array Value} (R : jRun F G nL k n pc L stk st μ (jQv G post a)) (kk : ∀ (μ' : Mem), post μ' → jX F G nL k n Q (pc + 3) L st μ') : jX F G nL k n Q pc L stk μ := by
  obtain ⟨p, l, e, R, s, m, args, below, meth, c⟩ := F
  intro H locs ls hw hS h
  refine va_callv (R H locs ls hw hS h) hS (fun q _ h => h) (fun q h => h) (fun u t H1 locs1 ht hvm hp hB hz1 hk1 hS1 => ?_)
  exact kk u hp H1 locs1 ls (by rw [← ht]; exact hB.1) hS1 h
theorem jx_rr (C : Cx F G own cc nL ret) {post : Nat → Mem → Prop} {a : Array Value} (R : jRun F G nL k n pc L stk st μ (jQr G post a)) (kk : ∀ (z : Nat) (μ' : Mem), post z μ' → jX F G nL k n Q (pc + 3) L (.inr z :: st) μ') : jX F G nL k n Q pc L stk μ := by
  obtain ⟨p, l, e, R, s, m, args, below, meth, c⟩ := F
  intro H locs ls hw hS h
  refine va_callr (R H locs ls hw hS h) hS (fun q _ h => h) (fun q h => h) (fun u ra t H1 locs1 ht hvm hp hB hz1 hk1 hS1 => ?_)
  exact kk ra u hB.2 H1 locs1 ls (by rw [← ht]; exact hB.1.1) hS1 h
section CV
variable {y : MethodName} {ccy : ByteArray} {mL na idx q ci N : Nat} {rt : FieldType} {rmy : Room} {as : List Sv} {T : u_T} {fs : List Value}
theorem Cx.ok (C : Cx F G own cc nL ret) : jadOK G := by
  obtain ⟨p, l, e, R, s, m, args, below, meth, c⟩ := F
  exact C.2.2.2.2.2.2.2.2.2.2
theorem jx_cVi (C : Cx F G own cc nL ret) (Y : Cy F l rm) {post : Int → Mem → Prop} (hM : MI l y ccy mL rt rmy G (.inr (ad G q) :: as) μ post) (B : YB y ccy mL (some rt) na) (V : YV y) (hl : Cond.methodLink own idx y ∈ jws) (he : jcl G q (μ q) = .inr (ci, fs)) (hc : jcls[ci]? = some (y.cls, T, N)) (hq : q < 96) (hn : as.length = na) (hs : stk = as.reverse ++ .inr (ad G q) :: st) (hst : st.length ≤ 8) (hr : Rok rm rmy mL k n) (hd : Dn cc pc (.invokevirtual idx) 3 pc2) (kk : ∀ (z : Int) (μ' : Mem), post z μ' → jX F G nL k n Q pc2 L (.inl z :: st) μ') : jX F G nL k n Q pc L stk μ :=
  jx_ri C (jrunV C Y (hM C.ok) B V hl he hc hq hn hs hst hr hd) (by have h2 := hd.2; subst h2; exact kk)
theorem jx_cVv (C : Cx F G own cc nL ret) (Y : Cy F l rm) {post : Mem → Prop} (hM : MV l y ccy mL rmy G (.inr (ad G q) :: as) μ post) (B : YB y ccy mL none na) (V : YV y) (hl : Cond.methodLink own idx y ∈ jws) (he : jcl G q (μ q) = .inr (ci, fs)) (hc : jcls[ci]? = some (y.cls, T, N)) (hq : q < 96) (hn : as.length = na) (hs : stk = as.reverse ++ .inr (ad G q) :: st) (hst : st.length ≤ 8) (hr : Rok rm rmy mL k n) (hd : Dn cc pc (.invokevirtual idx) 3 pc2) (kk : ∀ (μ' : Mem), post μ' → jX F G nL k n Q pc2 L st μ') : jX F G nL k n Q pc L stk μ :=
  jx_rv C (jrunV C Y (hM C.ok) B V hl he hc hq hn hs hst hr hd) (by have h2 := hd.2; subst h2; exact kk)
theorem jx_cVr (C : Cx F G own cc nL ret) (Y : Cy F l rm) {post : Nat → Mem → Prop} (hM : MR l y ccy mL rt rmy G (.inr (ad G q) :: as) μ post) (B : YB y ccy mL (some rt) na) (V : YV y) (hl : Cond.methodLink own idx y ∈ jws) (he : jcl G q (μ q) = .inr (ci, fs)) (hc : jcls[ci]? = some (y.cls, T, N)) (hq : q < 96) (hn : as.length = na) (hs : stk = as.reverse ++ .inr (ad G q) :: st) (hst : st.length ≤ 8) (hr : Rok rm rmy mL k n) (hd : Dn cc pc (.invokevirtual idx) 3 pc2) (kk : ∀ (z : Nat) (μ' : Mem), post z μ' → jX F G nL k n Q pc2 L (.inr z :: st) μ') : jX F G nL k n Q pc L stk μ :=
  jx_rr C (jrunV C Y (hM C.ok) B V hl he hc hq hn hs hst hr hd) (by have h2 := hd.2; subst h2; exact kk)
theorem jx_cSi (C : Cx F G own cc nL ret) (Y : Cy F l rm) {post : Int → Mem → Prop} (hM : MI l y ccy mL rt rmy G as μ post) (B : YB y ccy mL (some rt) na) (V : Cond.static y ∈ jws) (hl : Cond.methodLink own idx y ∈ jws) (hn : as.length = na) (hs : stk = as.reverse ++ st) (hst : st.length ≤ 8) (hr : Rok rm rmy mL k n) (hd : Dn cc pc (.invokestatic idx) 3 pc2) (kk : ∀ (z : Int) (μ' : Mem), post z μ' → jX F G nL k n Q pc2 L (.inl z :: st) μ') : jX F G nL k n Q pc L stk μ :=
  jx_ri C (jrunS C Y (hM C.ok) B V hl hn hs hst hr hd) (by have h2 := hd.2; subst h2; exact kk)
theorem jx_cWi (C : Cx F G "PictureJoin$Dots" cc nL ret) (Y : Cy F l rm) {post : Int → Mem → Prop} (hM : MI l jwin ccy mL rt rmy G as μ post) (B : YB jwin ccy mL (some rt) na) (V : Cond.static jwin ∈ jws) (hn : as.length = na) (hs : stk = as.reverse ++ st) (hst : st.length ≤ 8) (hr : Rok rm rmy mL k n) (hd : Dn cc pc (.invokestatic 39) 3 pc2) (kk : ∀ (z : Int) (μ' : Mem), post z μ' → jX F G nL k n Q pc2 L (.inl z :: st) μ') : jX F G nL k n Q pc L stk μ :=
  jx_ri C (jrunW C Y (hM C.ok) B V hn hs hst hr hd) (by have h2 := hd.2; subst h2; exact kk)
end CV
/-- what a method that changes nothing answers -/
def rdr (μ : Mem) (v : Int) : Int → Mem → Prop := fun z μ' => z = v ∧ μ' = μ
/-- an answer yes or no, nothing changed -/
def rdb (μ : Mem) (c : Prop) : Int → Mem → Prop := fun z μ' => μ' = μ ∧ ((z = 1 ∧ c) ∨ (z = 0 ∧ ¬ c))
theorem jx_max (C : Cx F G own cc nL ret) (Y : Cy F l rm) {a b : Int} {idx : Nat} (ha : InR a) (hb : InR b) (hl : Cond.methodLink own idx Lib.Math.max.name ∈ jws) (hms : Cond.static Lib.Math.max.name ∈ jws) (hmi : Cond.initialized "java/lang/Math" ∈ jws) (hmc : Cond.code Lib.Math.max.name Lib.Math.max.code 2 (some .int) ∈ jws) (hst : st.length ≤ 8) (hr : 1 ≤ rm.frames ∧ 21 ≤ rm.locals ∧ k ≤ rm.cells ∧ n ≤ rm.slots) (hd : Dn cc pc (.invokestatic idx) 3 pc2) (kk : jX F G nL k n Q pc2 L (.inl (max a b) :: st) μ) : jX F G nL k n Q pc L (.inl b :: .inl a :: st) μ := by
  obtain ⟨p, l, e, R, s, m, args, below, meth, c⟩ := F
  obtain ⟨hx, hbb, hml, hown, hts, -, -, hK, hZ, hz, -⟩ := C
  obtain ⟨rfl, rfl⟩ := Y
  obtain ⟨hd, rfl⟩ := hd
  intro H locs ls hw hS h
  refine va_mmax hx hbb (hml.trans h.1.symm) hown (hts _ hl) (hts _ hms) (hts _ hmi) (hts _ hmc) hr.1 (by rw [jcat]; exact Nat.le_trans (by omega) hr.2.1) hr.2.2.1 hr.2.2.2 hd ?_
  have e : (if zI a < zI b then zI b else zI a) = zI (max a b) := by
    by_cases hab : a < b
    · rw [if_pos ((zI_lt ha hb).mpr hab), Int.max_eq_right (Int.le_of_lt hab)]
    · rw [if_neg (fun q => hab ((zI_lt ha hb).mp q)), Int.max_eq_left (by omega)]
  rw [e]
  exact kk H locs ls hw hS h
theorem jx_min (C : Cx F G own cc nL ret) (Y : Cy F l rm) {a b : Int} {idx : Nat} (ha : InR a) (hb : InR b) (hl : Cond.methodLink own idx Lib.Math.min.name ∈ jws) (hms : Cond.static Lib.Math.min.name ∈ jws) (hmi : Cond.initialized "java/lang/Math" ∈ jws) (hmc : Cond.code Lib.Math.min.name Lib.Math.min.code 2 (some .int) ∈ jws) (hst : st.length ≤ 8) (hr : 1 ≤ rm.frames ∧ 21 ≤ rm.locals ∧ k ≤ rm.cells ∧ n ≤ rm.slots) (hd : Dn cc pc (.invokestatic idx) 3 pc2) (kk : jX F G nL k n Q pc2 L (.inl (min a b) :: st) μ) : jX F G nL k n Q pc L (.inl b :: .inl a :: st) μ := by
  obtain ⟨p, l, e, R, s, m, args, below, meth, c⟩ := F
  obtain ⟨hx, hbb, hml, hown, hts, -, -, hK, hZ, hz, -⟩ := C
  obtain ⟨rfl, rfl⟩ := Y
  obtain ⟨hd, rfl⟩ := hd
  intro H locs ls hw hS h
  refine va_mmin hx hbb (hml.trans h.1.symm) hown (hts _ hl) (hts _ hms) (hts _ hmi) (hts _ hmc) hr.1 (by rw [jcat]; exact Nat.le_trans (by omega) hr.2.1) hr.2.2.1 hr.2.2.2 hd ?_
  have e : (if zI b < zI a then zI b else zI a) = zI (min a b) := by
    by_cases hab : b < a
    · rw [if_pos ((zI_lt hb ha).mpr hab), Int.min_eq_right (Int.le_of_lt hab)]
    · rw [if_neg (fun q => hab ((zI_lt hb ha).mp q)), Int.min_eq_left (by omega)]
  rw [e]
  exact kk H locs ls hw hS h
theorem jx_abs (C : Cx F G own cc nL ret) (Y : Cy F l rm) {a : Int} {idx : Nat} (ha : InR a) (hl : Cond.methodLink own idx Lib.Math.abs.name ∈ jws) (hms : Cond.static Lib.Math.abs.name ∈ jws) (hmi : Cond.initialized "java/lang/Math" ∈ jws) (hmc : Cond.code Lib.Math.abs.name Lib.Math.abs.code 1 (some .int) ∈ jws) (hst : st.length ≤ 8) (hr : 1 ≤ rm.frames ∧ 21 ≤ rm.locals ∧ k ≤ rm.cells ∧ n ≤ rm.slots) (hd : Dn cc pc (.invokestatic idx) 3 pc2) (kk : jX F G nL k n Q pc2 L (.inl (if 0 ≤ a then a else 0 - a) :: st) μ) : jX F G nL k n Q pc L (.inl a :: st) μ := by
  obtain ⟨p, l, e, R, s, m, args, below, meth, c⟩ := F
  obtain ⟨hx, hbb, hml, hown, hts, -, -, hK, hZ, hz, -⟩ := C
  obtain ⟨rfl, rfl⟩ := Y
  obtain ⟨hd, rfl⟩ := hd
  intro H locs ls hw hS h
  refine va_mabs hx hbb (hml.trans h.1.symm) hown (hts _ hl) (hts _ hms) (hts _ hmi) (hts _ hmc) hr.1 (by rw [jcat]; exact Nat.le_trans (by omega) hr.2.1) hr.2.2.1 hr.2.2.2 hd ?_
  have e : (if 0 ≤ zI a then zI a else 0 - zI a) = zI (if 0 ≤ a then a else 0 - a) := by
    have h0 : (0 : Int32) = zI 0 := zI_0.symm
    by_cases hab : 0 ≤ a
    · rw [if_pos hab, if_pos (by rw [h0]; exact (zI_le ⟨by decide, by decide⟩ ha).mpr hab)]
    · rw [if_neg hab, if_neg (fun q => hab (by rw [h0] at q; exact (zI_le ⟨by decide, by decide⟩ ha).mp q)), h0, zI_sub]
  rw [e]
  exact kk H locs ls hw hS h
end JR
end
section
theorem zz_test : (1 : Nat) = 2 := by omega
end
