section
-- ===== PART A: goes FIRST, ahead of the names: the tables' words, and 'selects' of the private methods out of them =====
/-- a private method of a class that the tables say can be made, by its rows of tables_1 -/
def lw_okq (q : MethodName × Nat) : Prop := (q.1.cls ≠ "java/lang/invoke/MethodHandle" ∧ q.1.cls ≠ "java/lang/invoke/VarHandle") ∧ Cond.instantiable q.1.cls q.2 ∈ tables_1 ∧ Cond.privateMethod q.1 ∈ tables_1 ∧ Cond.instanceMethod q.1 ∈ tables_1
theorem lw_p0 : lw_okq (⟨"JumpDiscs$Board", "lift", "(I)V"⟩, 6) := ⟨⟨by decide +kernel, by decide +kernel⟩, List.mem_of_getElem? (i := 26) (by decide +kernel), List.mem_of_getElem? (i := 40) (by decide +kernel), List.mem_of_getElem? (i := 41) (by decide +kernel)⟩
theorem lw_p1 : lw_okq (⟨"JumpDiscs$Board", "isOverlap", "(II)Z"⟩, 6) := ⟨⟨by decide +kernel, by decide +kernel⟩, List.mem_of_getElem? (i := 26) (by decide +kernel), List.mem_of_getElem? (i := 55) (by decide +kernel), List.mem_of_getElem? (i := 56) (by decide +kernel)⟩
theorem lw_p2 : lw_okq (⟨"JumpDiscs$Board", "withNeighbours", "(I)I"⟩, 6) := ⟨⟨by decide +kernel, by decide +kernel⟩, List.mem_of_getElem? (i := 26) (by decide +kernel), List.mem_of_getElem? (i := 308) (by decide +kernel), List.mem_of_getElem? (i := 309) (by decide +kernel)⟩
theorem lw_p3 : lw_okq (⟨"JumpDiscs$Game", "drawOff", "(I)I"⟩, 8) := ⟨⟨by decide +kernel, by decide +kernel⟩, List.mem_of_getElem? (i := 20) (by decide +kernel), List.mem_of_getElem? (i := 336) (by decide +kernel), List.mem_of_getElem? (i := 337) (by decide +kernel)⟩
theorem lw_p4 : lw_okq (⟨"JumpDiscs$Game", "endTurn", "(Z)V"⟩, 8) := ⟨⟨by decide +kernel, by decide +kernel⟩, List.mem_of_getElem? (i := 20) (by decide +kernel), List.mem_of_getElem? (i := 356) (by decide +kernel), List.mem_of_getElem? (i := 357) (by decide +kernel)⟩
theorem lw_p5 : lw_okq (⟨"JumpDiscs$Game", "stepTurn", "()V"⟩, 8) := ⟨⟨by decide +kernel, by decide +kernel⟩, List.mem_of_getElem? (i := 20) (by decide +kernel), List.mem_of_getElem? (i := 360) (by decide +kernel), List.mem_of_getElem? (i := 361) (by decide +kernel)⟩
theorem lw_p6 : lw_okq (⟨"JumpDiscs", "twelfthsOf", "(I)I"⟩, 6) := ⟨⟨by decide +kernel, by decide +kernel⟩, List.mem_of_getElem? (i := 12) (by decide +kernel), List.mem_of_getElem? (i := 405) (by decide +kernel), List.mem_of_getElem? (i := 406) (by decide +kernel)⟩
theorem lw_p7 : lw_okq (⟨"JumpDiscs$Adviser", "weighAims", "(LJumpDiscs$Board;I)V"⟩, 3) := ⟨⟨by decide +kernel, by decide +kernel⟩, List.mem_of_getElem? (i := 123) (by decide +kernel), List.mem_of_getElem? (i := 440) (by decide +kernel), List.mem_of_getElem? (i := 441) (by decide +kernel)⟩
theorem lw_p8 : lw_okq (⟨"JumpDiscs$Adviser", "weigh", "(LJumpDiscs$Board;II)V"⟩, 3) := ⟨⟨by decide +kernel, by decide +kernel⟩, List.mem_of_getElem? (i := 123) (by decide +kernel), List.mem_of_getElem? (i := 444) (by decide +kernel), List.mem_of_getElem? (i := 445) (by decide +kernel)⟩
theorem lw_p9 : lw_okq (⟨"JumpDiscs$Row", "firstWrongIn", "(LJumpDiscs$Game;II)I"⟩, 9) := ⟨⟨by decide +kernel, by decide +kernel⟩, List.mem_of_getElem? (i := 141) (by decide +kernel), List.mem_of_getElem? (i := 496) (by decide +kernel), List.mem_of_getElem? (i := 497) (by decide +kernel)⟩
theorem lw_p10 : lw_okq (⟨"JumpDiscs$Row", "canComeTo", "(III)Z"⟩, 9) := ⟨⟨by decide +kernel, by decide +kernel⟩, List.mem_of_getElem? (i := 141) (by decide +kernel), List.mem_of_getElem? (i := 517) (by decide +kernel), List.mem_of_getElem? (i := 518) (by decide +kernel)⟩
theorem lw_p11 : lw_okq (⟨"JumpDiscs$Row", "isNearWritten", "(II)Z"⟩, 9) := ⟨⟨by decide +kernel, by decide +kernel⟩, List.mem_of_getElem? (i := 141) (by decide +kernel), List.mem_of_getElem? (i := 532) (by decide +kernel), List.mem_of_getElem? (i := 533) (by decide +kernel)⟩
theorem lw_p12 : lw_okq (⟨"JumpDiscs$Row", "countPlace", "(II)V"⟩, 9) := ⟨⟨by decide +kernel, by decide +kernel⟩, List.mem_of_getElem? (i := 141) (by decide +kernel), List.mem_of_getElem? (i := 537) (by decide +kernel), List.mem_of_getElem? (i := 538) (by decide +kernel)⟩
theorem lw_p13 : lw_okq (⟨"JumpDiscsModel", "clear", "()V"⟩, 14) := ⟨⟨by decide +kernel, by decide +kernel⟩, List.mem_of_getElem? (i := 575) (by decide +kernel), List.mem_of_getElem? (i := 581) (by decide +kernel), List.mem_of_getElem? (i := 582) (by decide +kernel)⟩
theorem lw_p14 : lw_okq (⟨"JumpDiscsModel", "lay", "(II)V"⟩, 14) := ⟨⟨by decide +kernel, by decide +kernel⟩, List.mem_of_getElem? (i := 575) (by decide +kernel), List.mem_of_getElem? (i := 585) (by decide +kernel), List.mem_of_getElem? (i := 586) (by decide +kernel)⟩
theorem lw_p15 : lw_okq (⟨"JumpDiscsModel", "gone", "()I"⟩, 14) := ⟨⟨by decide +kernel, by decide +kernel⟩, List.mem_of_getElem? (i := 575) (by decide +kernel), List.mem_of_getElem? (i := 636) (by decide +kernel), List.mem_of_getElem? (i := 637) (by decide +kernel)⟩
def lw_privs_1 : List (MethodName × Nat) := [(⟨"JumpDiscs$Board", "lift", "(I)V"⟩, 6), (⟨"JumpDiscs$Board", "isOverlap", "(II)Z"⟩, 6), (⟨"JumpDiscs$Board", "withNeighbours", "(I)I"⟩, 6), (⟨"JumpDiscs$Game", "drawOff", "(I)I"⟩, 8), (⟨"JumpDiscs$Game", "endTurn", "(Z)V"⟩, 8), (⟨"JumpDiscs$Game", "stepTurn", "()V"⟩, 8), (⟨"JumpDiscs", "twelfthsOf", "(I)I"⟩, 6), (⟨"JumpDiscs$Adviser", "weighAims", "(LJumpDiscs$Board;I)V"⟩, 3), (⟨"JumpDiscs$Adviser", "weigh", "(LJumpDiscs$Board;II)V"⟩, 3), (⟨"JumpDiscs$Row", "firstWrongIn", "(LJumpDiscs$Game;II)I"⟩, 9), (⟨"JumpDiscs$Row", "canComeTo", "(III)Z"⟩, 9), (⟨"JumpDiscs$Row", "isNearWritten", "(II)Z"⟩, 9), (⟨"JumpDiscs$Row", "countPlace", "(II)V"⟩, 9), (⟨"JumpDiscsModel", "clear", "()V"⟩, 14), (⟨"JumpDiscsModel", "lay", "(II)V"⟩, 14), (⟨"JumpDiscsModel", "gone", "()I"⟩, 14)]
theorem lw_r1 : ∀ q ∈ lw_privs_1, lw_okq q := List.forall_mem_cons.mpr ⟨lw_p0, List.forall_mem_cons.mpr ⟨lw_p1, List.forall_mem_cons.mpr ⟨lw_p2, List.forall_mem_cons.mpr ⟨lw_p3, List.forall_mem_cons.mpr ⟨lw_p4, List.forall_mem_cons.mpr ⟨lw_p5, List.forall_mem_cons.mpr ⟨lw_p6, List.forall_mem_cons.mpr ⟨lw_p7, List.forall_mem_cons.mpr ⟨lw_p8, List.forall_mem_cons.mpr ⟨lw_p9, List.forall_mem_cons.mpr ⟨lw_p10, List.forall_mem_cons.mpr ⟨lw_p11, List.forall_mem_cons.mpr ⟨lw_p12, List.forall_mem_cons.mpr ⟨lw_p13, List.forall_mem_cons.mpr ⟨lw_p14, List.forall_mem_cons.mpr ⟨lw_p15, fun _ h => absurd h List.not_mem_nil⟩⟩⟩⟩⟩⟩⟩⟩⟩⟩⟩⟩⟩⟩⟩⟩
theorem lw_p16 : lw_okq (⟨"JumpDiscsModel", "at", "(I)I"⟩, 14) := ⟨⟨by decide +kernel, by decide +kernel⟩, List.mem_of_getElem? (i := 575) (by decide +kernel), List.mem_of_getElem? (i := 640) (by decide +kernel), List.mem_of_getElem? (i := 641) (by decide +kernel)⟩
theorem lw_p17 : lw_okq (⟨"JumpDiscsModel", "isCome", "()Z"⟩, 14) := ⟨⟨by decide +kernel, by decide +kernel⟩, List.mem_of_getElem? (i := 575) (by decide +kernel), List.mem_of_getElem? (i := 651) (by decide +kernel), List.mem_of_getElem? (i := 652) (by decide +kernel)⟩
theorem lw_p18 : lw_okq (⟨"JumpDiscsModel", "isOver", "()Z"⟩, 14) := ⟨⟨by decide +kernel, by decide +kernel⟩, List.mem_of_getElem? (i := 575) (by decide +kernel), List.mem_of_getElem? (i := 655) (by decide +kernel), List.mem_of_getElem? (i := 656) (by decide +kernel)⟩
theorem lw_p19 : lw_okq (⟨"JumpDiscsModel", "allIn", "(I)Z"⟩, 14) := ⟨⟨by decide +kernel, by decide +kernel⟩, List.mem_of_getElem? (i := 575) (by decide +kernel), List.mem_of_getElem? (i := 659) (by decide +kernel), List.mem_of_getElem? (i := 660) (by decide +kernel)⟩
theorem lw_p20 : lw_okq (⟨"JumpDiscsModel", "how", "(I)I"⟩, 14) := ⟨⟨by decide +kernel, by decide +kernel⟩, List.mem_of_getElem? (i := 575) (by decide +kernel), List.mem_of_getElem? (i := 663) (by decide +kernel), List.mem_of_getElem? (i := 664) (by decide +kernel)⟩
theorem lw_p21 : lw_okq (⟨"JumpDiscsModel", "freeOf", "(I)I"⟩, 14) := ⟨⟨by decide +kernel, by decide +kernel⟩, List.mem_of_getElem? (i := 575) (by decide +kernel), List.mem_of_getElem? (i := 667) (by decide +kernel), List.mem_of_getElem? (i := 668) (by decide +kernel)⟩
theorem lw_p22 : lw_okq (⟨"JumpDiscsModel", "isFree", "(I)Z"⟩, 14) := ⟨⟨by decide +kernel, by decide +kernel⟩, List.mem_of_getElem? (i := 575) (by decide +kernel), List.mem_of_getElem? (i := 671) (by decide +kernel), List.mem_of_getElem? (i := 672) (by decide +kernel)⟩
theorem lw_p23 : lw_okq (⟨"JumpDiscsModel", "coverers", "(I)I"⟩, 14) := ⟨⟨by decide +kernel, by decide +kernel⟩, List.mem_of_getElem? (i := 575) (by decide +kernel), List.mem_of_getElem? (i := 675) (by decide +kernel), List.mem_of_getElem? (i := 676) (by decide +kernel)⟩
theorem lw_p24 : lw_okq (⟨"JumpDiscsModel", "covers", "(II)Z"⟩, 14) := ⟨⟨by decide +kernel, by decide +kernel⟩, List.mem_of_getElem? (i := 575) (by decide +kernel), List.mem_of_getElem? (i := 679) (by decide +kernel), List.mem_of_getElem? (i := 680) (by decide +kernel)⟩
theorem lw_p25 : lw_okq (⟨"JumpDiscsModel", "xOf", "(I)I"⟩, 14) := ⟨⟨by decide +kernel, by decide +kernel⟩, List.mem_of_getElem? (i := 575) (by decide +kernel), List.mem_of_getElem? (i := 683) (by decide +kernel), List.mem_of_getElem? (i := 684) (by decide +kernel)⟩
theorem lw_p26 : lw_okq (⟨"JumpDiscsModel", "yOf", "(I)I"⟩, 14) := ⟨⟨by decide +kernel, by decide +kernel⟩, List.mem_of_getElem? (i := 575) (by decide +kernel), List.mem_of_getElem? (i := 693) (by decide +kernel), List.mem_of_getElem? (i := 694) (by decide +kernel)⟩
theorem lw_p27 : lw_okq (⟨"JumpDiscsModel", "turn", "()I"⟩, 14) := ⟨⟨by decide +kernel, by decide +kernel⟩, List.mem_of_getElem? (i := 575) (by decide +kernel), List.mem_of_getElem? (i := 703) (by decide +kernel), List.mem_of_getElem? (i := 704) (by decide +kernel)⟩
theorem lw_p28 : lw_okq (⟨"JumpDiscsModel", "passOver", "(IZ)V"⟩, 14) := ⟨⟨by decide +kernel, by decide +kernel⟩, List.mem_of_getElem? (i := 575) (by decide +kernel), List.mem_of_getElem? (i := 707) (by decide +kernel), List.mem_of_getElem? (i := 708) (by decide +kernel)⟩
theorem lw_p29 : lw_okq (⟨"JumpDiscsModel", "next", "(IZ)I"⟩, 14) := ⟨⟨by decide +kernel, by decide +kernel⟩, List.mem_of_getElem? (i := 575) (by decide +kernel), List.mem_of_getElem? (i := 711) (by decide +kernel), List.mem_of_getElem? (i := 712) (by decide +kernel)⟩
theorem lw_p30 : lw_okq (⟨"JumpDiscsModel", "place", "(III)V"⟩, 14) := ⟨⟨by decide +kernel, by decide +kernel⟩, List.mem_of_getElem? (i := 575) (by decide +kernel), List.mem_of_getElem? (i := 736) (by decide +kernel), List.mem_of_getElem? (i := 737) (by decide +kernel)⟩
theorem lw_p31 : lw_okq (⟨"JumpDiscsModel", "covered", "(I)I"⟩, 14) := ⟨⟨by decide +kernel, by decide +kernel⟩, List.mem_of_getElem? (i := 575) (by decide +kernel), List.mem_of_getElem? (i := 744) (by decide +kernel), List.mem_of_getElem? (i := 745) (by decide +kernel)⟩
def lw_privs_2 : List (MethodName × Nat) := [(⟨"JumpDiscsModel", "at", "(I)I"⟩, 14), (⟨"JumpDiscsModel", "isCome", "()Z"⟩, 14), (⟨"JumpDiscsModel", "isOver", "()Z"⟩, 14), (⟨"JumpDiscsModel", "allIn", "(I)Z"⟩, 14), (⟨"JumpDiscsModel", "how", "(I)I"⟩, 14), (⟨"JumpDiscsModel", "freeOf", "(I)I"⟩, 14), (⟨"JumpDiscsModel", "isFree", "(I)Z"⟩, 14), (⟨"JumpDiscsModel", "coverers", "(I)I"⟩, 14), (⟨"JumpDiscsModel", "covers", "(II)Z"⟩, 14), (⟨"JumpDiscsModel", "xOf", "(I)I"⟩, 14), (⟨"JumpDiscsModel", "yOf", "(I)I"⟩, 14), (⟨"JumpDiscsModel", "turn", "()I"⟩, 14), (⟨"JumpDiscsModel", "passOver", "(IZ)V"⟩, 14), (⟨"JumpDiscsModel", "next", "(IZ)I"⟩, 14), (⟨"JumpDiscsModel", "place", "(III)V"⟩, 14), (⟨"JumpDiscsModel", "covered", "(I)I"⟩, 14)]
theorem lw_r2 : ∀ q ∈ lw_privs_2, lw_okq q := List.forall_mem_cons.mpr ⟨lw_p16, List.forall_mem_cons.mpr ⟨lw_p17, List.forall_mem_cons.mpr ⟨lw_p18, List.forall_mem_cons.mpr ⟨lw_p19, List.forall_mem_cons.mpr ⟨lw_p20, List.forall_mem_cons.mpr ⟨lw_p21, List.forall_mem_cons.mpr ⟨lw_p22, List.forall_mem_cons.mpr ⟨lw_p23, List.forall_mem_cons.mpr ⟨lw_p24, List.forall_mem_cons.mpr ⟨lw_p25, List.forall_mem_cons.mpr ⟨lw_p26, List.forall_mem_cons.mpr ⟨lw_p27, List.forall_mem_cons.mpr ⟨lw_p28, List.forall_mem_cons.mpr ⟨lw_p29, List.forall_mem_cons.mpr ⟨lw_p30, List.forall_mem_cons.mpr ⟨lw_p31, fun _ h => absurd h List.not_mem_nil⟩⟩⟩⟩⟩⟩⟩⟩⟩⟩⟩⟩⟩⟩⟩⟩
theorem lw_p32 : lw_okq (⟨"JumpDiscsModel", "pile", "(I)I"⟩, 14) := ⟨⟨by decide +kernel, by decide +kernel⟩, List.mem_of_getElem? (i := 575) (by decide +kernel), List.mem_of_getElem? (i := 748) (by decide +kernel), List.mem_of_getElem? (i := 749) (by decide +kernel)⟩
theorem lw_p33 : lw_okq (⟨"JumpDiscsModel", "mayShoot", "(I)Z"⟩, 14) := ⟨⟨by decide +kernel, by decide +kernel⟩, List.mem_of_getElem? (i := 575) (by decide +kernel), List.mem_of_getElem? (i := 756) (by decide +kernel), List.mem_of_getElem? (i := 757) (by decide +kernel)⟩
theorem lw_p34 : lw_okq (⟨"JumpDiscsModel", "draw", "(I)I"⟩, 14) := ⟨⟨by decide +kernel, by decide +kernel⟩, List.mem_of_getElem? (i := 575) (by decide +kernel), List.mem_of_getElem? (i := 766) (by decide +kernel), List.mem_of_getElem? (i := 767) (by decide +kernel)⟩
theorem lw_p35 : lw_okq (⟨"JumpDiscsModel", "goOn", "(Z)V"⟩, 14) := ⟨⟨by decide +kernel, by decide +kernel⟩, List.mem_of_getElem? (i := 575) (by decide +kernel), List.mem_of_getElem? (i := 778) (by decide +kernel), List.mem_of_getElem? (i := 779) (by decide +kernel)⟩
theorem lw_p36 : lw_okq (⟨"JumpDiscsModel", "scoreOf", "(I)I"⟩, 14) := ⟨⟨by decide +kernel, by decide +kernel⟩, List.mem_of_getElem? (i := 575) (by decide +kernel), List.mem_of_getElem? (i := 797) (by decide +kernel), List.mem_of_getElem? (i := 798) (by decide +kernel)⟩
theorem lw_p37 : lw_okq (⟨"JumpDiscsModel", "twelfthsOf", "(I)I"⟩, 14) := ⟨⟨by decide +kernel, by decide +kernel⟩, List.mem_of_getElem? (i := 575) (by decide +kernel), List.mem_of_getElem? (i := 805) (by decide +kernel), List.mem_of_getElem? (i := 806) (by decide +kernel)⟩
theorem lw_p38 : lw_okq (⟨"JumpDiscsModel", "rank", "(I)I"⟩, 14) := ⟨⟨by decide +kernel, by decide +kernel⟩, List.mem_of_getElem? (i := 575) (by decide +kernel), List.mem_of_getElem? (i := 809) (by decide +kernel), List.mem_of_getElem? (i := 810) (by decide +kernel)⟩
theorem lw_p39 : lw_okq (⟨"JumpDiscsModel", "chanceOf", "(II)I"⟩, 14) := ⟨⟨by decide +kernel, by decide +kernel⟩, List.mem_of_getElem? (i := 575) (by decide +kernel), List.mem_of_getElem? (i := 821) (by decide +kernel), List.mem_of_getElem? (i := 822) (by decide +kernel)⟩
theorem lw_p40 : lw_okq (⟨"JumpDiscsModel", "layBest", "(I)V"⟩, 14) := ⟨⟨by decide +kernel, by decide +kernel⟩, List.mem_of_getElem? (i := 575) (by decide +kernel), List.mem_of_getElem? (i := 829) (by decide +kernel), List.mem_of_getElem? (i := 830) (by decide +kernel)⟩
theorem lw_p41 : lw_okq (⟨"JumpDiscsModel", "gainOf", "(II)I"⟩, 14) := ⟨⟨by decide +kernel, by decide +kernel⟩, List.mem_of_getElem? (i := 575) (by decide +kernel), List.mem_of_getElem? (i := 833) (by decide +kernel), List.mem_of_getElem? (i := 834) (by decide +kernel)⟩
theorem lw_p42 : lw_okq (⟨"JumpDiscsModel", "wrongWith", "(II)I"⟩, 14) := ⟨⟨by decide +kernel, by decide +kernel⟩, List.mem_of_getElem? (i := 575) (by decide +kernel), List.mem_of_getElem? (i := 853) (by decide +kernel), List.mem_of_getElem? (i := 854) (by decide +kernel)⟩
theorem lw_p43 : lw_okq (⟨"JumpDiscsModel", "pairsOf", "(I)I"⟩, 14) := ⟨⟨by decide +kernel, by decide +kernel⟩, List.mem_of_getElem? (i := 575) (by decide +kernel), List.mem_of_getElem? (i := 865) (by decide +kernel), List.mem_of_getElem? (i := 866) (by decide +kernel)⟩
def lw_privs_3 : List (MethodName × Nat) := [(⟨"JumpDiscsModel", "pile", "(I)I"⟩, 14), (⟨"JumpDiscsModel", "mayShoot", "(I)Z"⟩, 14), (⟨"JumpDiscsModel", "draw", "(I)I"⟩, 14), (⟨"JumpDiscsModel", "goOn", "(Z)V"⟩, 14), (⟨"JumpDiscsModel", "scoreOf", "(I)I"⟩, 14), (⟨"JumpDiscsModel", "twelfthsOf", "(I)I"⟩, 14), (⟨"JumpDiscsModel", "rank", "(I)I"⟩, 14), (⟨"JumpDiscsModel", "chanceOf", "(II)I"⟩, 14), (⟨"JumpDiscsModel", "layBest", "(I)V"⟩, 14), (⟨"JumpDiscsModel", "gainOf", "(II)I"⟩, 14), (⟨"JumpDiscsModel", "wrongWith", "(II)I"⟩, 14), (⟨"JumpDiscsModel", "pairsOf", "(I)I"⟩, 14)]
theorem lw_r3 : ∀ q ∈ lw_privs_3, lw_okq q := List.forall_mem_cons.mpr ⟨lw_p32, List.forall_mem_cons.mpr ⟨lw_p33, List.forall_mem_cons.mpr ⟨lw_p34, List.forall_mem_cons.mpr ⟨lw_p35, List.forall_mem_cons.mpr ⟨lw_p36, List.forall_mem_cons.mpr ⟨lw_p37, List.forall_mem_cons.mpr ⟨lw_p38, List.forall_mem_cons.mpr ⟨lw_p39, List.forall_mem_cons.mpr ⟨lw_p40, List.forall_mem_cons.mpr ⟨lw_p41, List.forall_mem_cons.mpr ⟨lw_p42, List.forall_mem_cons.mpr ⟨lw_p43, fun _ h => absurd h List.not_mem_nil⟩⟩⟩⟩⟩⟩⟩⟩⟩⟩⟩⟩
def lw_privs : List (MethodName × Nat) := lw_privs_1 ++ (lw_privs_2 ++ (lw_privs_3))
def lw_tbl : List Cond := k2_sels lw_privs ++ tables_1
theorem lw_privs_ok : ∀ q ∈ lw_privs, lw_okq q := by
  show ∀ q ∈ lw_privs_1 ++ (lw_privs_2 ++ (lw_privs_3)), lw_okq q
  exact List.forall_mem_append.mpr ⟨lw_r1, List.forall_mem_append.mpr ⟨lw_r2, lw_r3⟩⟩
end
section
def RX0 : String := "JumpDiscs$Adviser"
def TX0 : u_T := fun k => match k with
  | 0 => ("JumpDiscs$Adviser", "disc", "I", false)
  | 1 => ("JumpDiscs$Adviser", "aim", "I", false)
  | _ => ("JumpDiscs$Adviser", "worth", "I", false)
def tyX0 : Nat → FieldType := fun k => match k with
  | 0 => .int
  | 1 => .int
  | _ => .int
theorem nmX0 : ∀ a, a < 3 → ∀ b, b < 3 → a ≠ b → (TX0 a).2.1 ≠ (TX0 b).2.1 := by decide +kernel
theorem tyX0_ok : ∀ k, k < 3 → parseFieldDescriptor (TX0 k).2.2.1 = some (tyX0 k) := by decide +kernel
abbrev cX0_init : ByteArray := prog_2_method_1_code
def yX0_init : MethodName := ⟨RX0, "<init>", "()V"⟩
abbrev cX0_worthOfBest : ByteArray := prog_2_method_2_code
def yX0_worthOfBest : MethodName := ⟨RX0, "worthOfBest", "(LJumpDiscs$Board;I)I"⟩
abbrev cX0_weighAims : ByteArray := prog_2_method_3_code
def yX0_weighAims : MethodName := ⟨RX0, "weighAims", "(LJumpDiscs$Board;I)V"⟩
abbrev cX0_weigh : ByteArray := prog_2_method_4_code
def yX0_weigh : MethodName := ⟨RX0, "weigh", "(LJumpDiscs$Board;II)V"⟩
abbrev cX0_chanceOf : ByteArray := prog_2_method_5_code
def yX0_chanceOf : MethodName := ⟨RX0, "chanceOf", "(LJumpDiscs$Board;II)I"⟩
abbrev cX0_gainOf : ByteArray := prog_2_method_6_code
def yX0_gainOf : MethodName := ⟨RX0, "gainOf", "(LJumpDiscs$Board;II)I"⟩
abbrev cX0_wayToCup : ByteArray := prog_2_method_7_code
def yX0_wayToCup : MethodName := ⟨RX0, "wayToCup", "(LJumpDiscs$Board;I)I"⟩
def RX1 : String := "JumpDiscs$Board"
def TX1 : u_T := fun k => match k with
  | 0 => ("JumpDiscs$Board", "xs", "[I", true)
  | 1 => ("JumpDiscs$Board", "ys", "[I", true)
  | 2 => ("JumpDiscs$Board", "coverers", "[I", true)
  | 3 => ("JumpDiscs$Board", "lying", "I", false)
  | 4 => ("JumpDiscs$Board", "inCup", "I", false)
  | _ => ("JumpDiscs$Board", "covered", "I", false)
def tyX1 : Nat → FieldType := fun k => match k with
  | 0 => .array .int
  | 1 => .array .int
  | 2 => .array .int
  | 3 => .int
  | 4 => .int
  | _ => .int
theorem nmX1 : ∀ a, a < 6 → ∀ b, b < 6 → a ≠ b → (TX1 a).2.1 ≠ (TX1 b).2.1 := by decide +kernel
theorem tyX1_ok : ∀ k, k < 6 → parseFieldDescriptor (TX1 k).2.2.1 = some (tyX1 k) := by decide +kernel
abbrev cX1_init : ByteArray := prog_3_method_1_code
def yX1_init : MethodName := ⟨RX1, "<init>", "()V"⟩
abbrev cX1_bringAllToBase : ByteArray := prog_3_method_2_code
def yX1_bringAllToBase : MethodName := ⟨RX1, "bringAllToBase", "()V"⟩
abbrev cX1_copyFrom : ByteArray := prog_3_method_3_code
def yX1_copyFrom : MethodName := ⟨RX1, "copyFrom", "(LJumpDiscs$Board;)V"⟩
abbrev cX1_bring : ByteArray := prog_3_method_4_code
def yX1_bring : MethodName := ⟨RX1, "bring", "(III)V"⟩
abbrev cX1_lift : ByteArray := prog_3_method_5_code
def yX1_lift : MethodName := ⟨RX1, "lift", "(I)V"⟩
abbrev cX1_isOverlap : ByteArray := prog_3_method_6_code
def yX1_isOverlap : MethodName := ⟨RX1, "isOverlap", "(II)Z"⟩
abbrev cX1_doesLie : ByteArray := prog_3_method_7_code
def yX1_doesLie : MethodName := ⟨RX1, "doesLie", "(I)Z"⟩
abbrev cX1_isInCup : ByteArray := prog_3_method_8_code
def yX1_isInCup : MethodName := ⟨RX1, "isInCup", "(I)Z"⟩
abbrev cX1_isAtBase : ByteArray := prog_3_method_9_code
def yX1_isAtBase : MethodName := ⟨RX1, "isAtBase", "(I)Z"⟩
abbrev cX1_isFree : ByteArray := prog_3_method_10_code
def yX1_isFree : MethodName := ⟨RX1, "isFree", "(I)Z"⟩
abbrev cX1_coveredBy : ByteArray := prog_3_method_11_code
def yX1_coveredBy : MethodName := ⟨RX1, "coveredBy", "(I)I"⟩
abbrev cX1_pileOf : ByteArray := prog_3_method_12_code
def yX1_pileOf : MethodName := ⟨RX1, "pileOf", "(I)I"⟩
abbrev cX1_withNeighbours : ByteArray := prog_3_method_13_code
def yX1_withNeighbours : MethodName := ⟨RX1, "withNeighbours", "(I)I"⟩
abbrev cX1_freeOf : ByteArray := prog_3_method_14_code
def yX1_freeOf : MethodName := ⟨RX1, "freeOf", "(I)I"⟩
abbrev cX1_isAllIn : ByteArray := prog_3_method_15_code
def yX1_isAllIn : MethodName := ⟨RX1, "isAllIn", "(I)Z"⟩
abbrev cX1_isAnyoneAllIn : ByteArray := prog_3_method_16_code
def yX1_isAnyoneAllIn : MethodName := ⟨RX1, "isAnyoneAllIn", "()Z"⟩
abbrev cX1_scoreOf : ByteArray := prog_3_method_17_code
def yX1_scoreOf : MethodName := ⟨RX1, "scoreOf", "(I)I"⟩
def RX2 : String := "JumpDiscs$Game"
def TX2 : u_T := fun k => match k with
  | 0 => ("JumpDiscs$Game", "board", "LJumpDiscs$Board;", true)
  | 1 => ("JumpDiscs$Game", "rough", "I", false)
  | 2 => ("JumpDiscs$Game", "run", "I", false)
  | 3 => ("JumpDiscs$Game", "time", "I", false)
  | 4 => ("JumpDiscs$Game", "seedNow", "J", false)
  | 5 => ("JumpDiscs$Game", "turn", "I", false)
  | 6 => ("JumpDiscs$Game", "turnsGone", "I", false)
  | _ => ("JumpDiscs$Game", "roundsEnded", "I", false)
def tyX2 : Nat → FieldType := fun k => match k with
  | 0 => .object "JumpDiscs$Board"
  | 1 => .int
  | 2 => .int
  | 3 => .int
  | 4 => .long
  | 5 => .int
  | 6 => .int
  | _ => .int
theorem nmX2 : ∀ a, a < 8 → ∀ b, b < 8 → a ≠ b → (TX2 a).2.1 ≠ (TX2 b).2.1 := by decide +kernel
theorem tyX2_ok : ∀ k, k < 8 → parseFieldDescriptor (TX2 k).2.2.1 = some (tyX2 k) := by decide +kernel
abbrev cX2_init : ByteArray := prog_4_method_1_code
def yX2_init : MethodName := ⟨RX2, "<init>", "()V"⟩
abbrev cX2_beginAnew : ByteArray := prog_4_method_2_code
def yX2_beginAnew : MethodName := ⟨RX2, "beginAnew", "()V"⟩
abbrev cX2_copyFrom : ByteArray := prog_4_method_3_code
def yX2_copyFrom : MethodName := ⟨RX2, "copyFrom", "(LJumpDiscs$Game;)V"⟩
abbrev cX2_changeRough : ByteArray := prog_4_method_4_code
def yX2_changeRough : MethodName := ⟨RX2, "changeRough", "(I)I"⟩
abbrev cX2_changeRun : ByteArray := prog_4_method_5_code
def yX2_changeRun : MethodName := ⟨RX2, "changeRun", "(I)I"⟩
abbrev cX2_changeTime : ByteArray := prog_4_method_6_code
def yX2_changeTime : MethodName := ⟨RX2, "changeTime", "(I)I"⟩
abbrev cX2_isTimeCome : ByteArray := prog_4_method_7_code
def yX2_isTimeCome : MethodName := ⟨RX2, "isTimeCome", "()Z"⟩
abbrev cX2_roundsLeft : ByteArray := prog_4_method_8_code
def yX2_roundsLeft : MethodName := ⟨RX2, "roundsLeft", "()I"⟩
abbrev cX2_isOver : ByteArray := prog_4_method_9_code
def yX2_isOver : MethodName := ⟨RX2, "isOver", "()Z"⟩
abbrev cX2_mayPlay : ByteArray := prog_4_method_10_code
def yX2_mayPlay : MethodName := ⟨RX2, "mayPlay", "(I)Z"⟩
abbrev cX2_playShot : ByteArray := prog_4_method_11_code
def yX2_playShot : MethodName := ⟨RX2, "playShot", "(III)Z"⟩
abbrev cX2_blowApart : ByteArray := prog_4_method_12_code
def yX2_blowApart : MethodName := ⟨RX2, "blowApart", "(I)V"⟩
abbrev cX2_follow : ByteArray := prog_4_method_13_code
def yX2_follow : MethodName := ⟨RX2, "follow", "(III)Z"⟩
abbrev cX2_endTurn : ByteArray := prog_4_method_14_code
def yX2_endTurn : MethodName := ⟨RX2, "endTurn", "(Z)V"⟩
abbrev cX2_stepTurn : ByteArray := prog_4_method_15_code
def yX2_stepTurn : MethodName := ⟨RX2, "stepTurn", "()V"⟩
abbrev cX2_passOverWithoutRounds : ByteArray := prog_4_method_16_code
def yX2_passOverWithoutRounds : MethodName := ⟨RX2, "passOverWithoutRounds", "()V"⟩
abbrev cX2_playerBehind : ByteArray := prog_4_method_17_code
def yX2_playerBehind : MethodName := ⟨RX2, "playerBehind", "()I"⟩
abbrev cX2_drawOff : ByteArray := prog_4_method_18_code
def yX2_drawOff : MethodName := ⟨RX2, "drawOff", "(I)I"⟩
abbrev cX2_nextInRound : ByteArray := prog_4_method_19_code
def yX2_nextInRound : MethodName := ⟨RX2, "nextInRound", "(I)I"⟩
abbrev cX2_doesCupTake : ByteArray := prog_4_method_20_code
def yX2_doesCupTake : MethodName := ⟨RX2, "doesCupTake", "(II)Z"⟩
abbrev cX2_nearestOnMat : ByteArray := prog_4_method_21_code
def yX2_nearestOnMat : MethodName := ⟨RX2, "nearestOnMat", "(I)I"⟩
abbrev cX2_signOf : ByteArray := prog_4_method_22_code
def yX2_signOf : MethodName := ⟨RX2, "signOf", "(I)I"⟩
def RX3 : String := "JumpDiscs$Row"
def TX3 : u_T := fun k => match k with
  | 0 => ("JumpDiscs$Row", "discs", "[I", true)
  | 1 => ("JumpDiscs$Row", "xs", "[I", true)
  | 2 => ("JumpDiscs$Row", "ys", "[I", true)
  | 3 => ("JumpDiscs$Row", "size", "I", false)
  | 4 => ("JumpDiscs$Row", "placesFound", "I", false)
  | 5 => ("JumpDiscs$Row", "firstFound", "I", false)
  | 6 => ("JumpDiscs$Row", "foundByTime", "I", false)
  | 7 => ("JumpDiscs$Row", "upToGap", "LJumpDiscs$Game;", true)
  | _ => ("JumpDiscs$Row", "trial", "LJumpDiscs$Game;", true)
def tyX3 : Nat → FieldType := fun k => match k with
  | 0 => .array .int
  | 1 => .array .int
  | 2 => .array .int
  | 3 => .int
  | 4 => .int
  | 5 => .int
  | 6 => .int
  | 7 => .object "JumpDiscs$Game"
  | _ => .object "JumpDiscs$Game"
theorem nmX3 : ∀ a, a < 9 → ∀ b, b < 9 → a ≠ b → (TX3 a).2.1 ≠ (TX3 b).2.1 := by decide +kernel
theorem tyX3_ok : ∀ k, k < 9 → parseFieldDescriptor (TX3 k).2.2.1 = some (tyX3 k) := by decide +kernel
abbrev cX3_init : ByteArray := prog_5_method_1_code
def yX3_init : MethodName := ⟨RX3, "<init>", "()V"⟩
abbrev cX3_add : ByteArray := prog_5_method_2_code
def yX3_add : MethodName := ⟨RX3, "add", "(III)I"⟩
abbrev cX3_clear : ByteArray := prog_5_method_3_code
def yX3_clear : MethodName := ⟨RX3, "clear", "()I"⟩
abbrev cX3_firstWrong : ByteArray := prog_5_method_4_code
def yX3_firstWrong : MethodName := ⟨RX3, "firstWrong", "(I)I"⟩
abbrev cX3_onlyGap : ByteArray := prog_5_method_5_code
def yX3_onlyGap : MethodName := ⟨RX3, "onlyGap", "()I"⟩
abbrev cX3_findPlaces : ByteArray := prog_5_method_6_code
def yX3_findPlaces : MethodName := ⟨RX3, "findPlaces", "(II)V"⟩
abbrev cX3_isNearWritten : ByteArray := prog_5_method_7_code
def yX3_isNearWritten : MethodName := ⟨RX3, "isNearWritten", "(II)Z"⟩
abbrev cX3_canComeTo : ByteArray := prog_5_method_8_code
def yX3_canComeTo : MethodName := ⟨RX3, "canComeTo", "(III)Z"⟩
abbrev cX3_countPlace : ByteArray := prog_5_method_9_code
def yX3_countPlace : MethodName := ⟨RX3, "countPlace", "(II)V"⟩
abbrev cX3_startOver : ByteArray := prog_5_method_10_code
def yX3_startOver : MethodName := ⟨RX3, "startOver", "(LJumpDiscs$Game;I)V"⟩
abbrev cX3_firstWrongIn : ByteArray := prog_5_method_11_code
def yX3_firstWrongIn : MethodName := ⟨RX3, "firstWrongIn", "(LJumpDiscs$Game;II)I"⟩
def RX4 : String := "JumpDiscs$Scatter"
def TX4 : u_T := fun k => match k with
  | 0 => ("JumpDiscs$Scatter", "howMany", "[I", true)
  | 1 => ("JumpDiscs$Scatter", "offSums", "[I", true)
  | _ => ("JumpDiscs$Scatter", "ofPlayer", "[I", true)
def tyX4 : Nat → FieldType := fun k => match k with
  | 0 => .array .int
  | 1 => .array .int
  | _ => .array .int
theorem nmX4 : ∀ a, a < 3 → ∀ b, b < 3 → a ≠ b → (TX4 a).2.1 ≠ (TX4 b).2.1 := by decide +kernel
theorem tyX4_ok : ∀ k, k < 3 → parseFieldDescriptor (TX4 k).2.2.1 = some (tyX4 k) := by decide +kernel
abbrev cX4_init : ByteArray := prog_6_method_1_code
def yX4_init : MethodName := ⟨RX4, "<init>", "()V"⟩
abbrev cX4_add : ByteArray := prog_6_method_2_code
def yX4_add : MethodName := ⟨RX4, "add", "(III)I"⟩
abbrev cX4_tell : ByteArray := prog_6_method_3_code
def yX4_tell : MethodName := ⟨RX4, "tell", "(III)I"⟩
abbrev cX4_commonDivisor : ByteArray := prog_6_method_4_code
def yX4_commonDivisor : MethodName := ⟨RX4, "commonDivisor", "(II)I"⟩
def RX5 : String := "JumpDiscs"
def TX5 : u_T := fun k => match k with
  | 0 => ("JumpDiscs", "now", "LJumpDiscs$Game;", true)
  | 1 => ("JumpDiscs", "adviser", "LJumpDiscs$Adviser;", true)
  | 2 => ("JumpDiscs", "row", "LJumpDiscs$Row;", true)
  | 3 => ("JumpDiscs", "seenPairs", "LJumpDiscs$Scatter;", true)
  | 4 => ("JumpDiscs", "kept", "[LJumpDiscs$Game;", true)
  | _ => ("JumpDiscs", "keptCount", "I", false)
def tyX5 : Nat → FieldType := fun k => match k with
  | 0 => .object "JumpDiscs$Game"
  | 1 => .object "JumpDiscs$Adviser"
  | 2 => .object "JumpDiscs$Row"
  | 3 => .object "JumpDiscs$Scatter"
  | 4 => .array (.object "JumpDiscs$Game")
  | _ => .int
theorem nmX5 : ∀ a, a < 6 → ∀ b, b < 6 → a ≠ b → (TX5 a).2.1 ≠ (TX5 b).2.1 := by decide +kernel
theorem tyX5_ok : ∀ k, k < 6 → parseFieldDescriptor (TX5 k).2.2.1 = some (tyX5 k) := by decide +kernel
abbrev cX5_init : ByteArray := prog_1_method_1_code
def yX5_init : MethodName := ⟨RX5, "<init>", "()V"⟩
abbrev cX5_anew : ByteArray := prog_1_method_2_code
def yX5_anew : MethodName := ⟨RX5, "anew", "()I"⟩
abbrev cX5_rule : ByteArray := prog_1_method_3_code
def yX5_rule : MethodName := ⟨RX5, "rule", "(II)I"⟩
abbrev cX5_seed : ByteArray := prog_1_method_4_code
def yX5_seed : MethodName := ⟨RX5, "seed", "(I)I"⟩
abbrev cX5_put : ByteArray := prog_1_method_5_code
def yX5_put : MethodName := ⟨RX5, "put", "(III)I"⟩
abbrev cX5_about : ByteArray := prog_1_method_6_code
def yX5_about : MethodName := ⟨RX5, "about", "(II)I"⟩
abbrev cX5_shoot : ByteArray := prog_1_method_7_code
def yX5_shoot : MethodName := ⟨RX5, "shoot", "(III)I"⟩
abbrev cX5_blow : ByteArray := prog_1_method_8_code
def yX5_blow : MethodName := ⟨RX5, "blow", "(I)I"⟩
abbrev cX5_game : ByteArray := prog_1_method_9_code
def yX5_game : MethodName := ⟨RX5, "game", "(I)I"⟩
abbrev cX5_score : ByteArray := prog_1_method_10_code
def yX5_score : MethodName := ⟨RX5, "score", "(I)I"⟩
abbrev cX5_twelfths : ByteArray := prog_1_method_11_code
def yX5_twelfths : MethodName := ⟨RX5, "twelfths", "(I)I"⟩
abbrev cX5_points : ByteArray := prog_1_method_12_code
def yX5_points : MethodName := ⟨RX5, "points", "(I)I"⟩
abbrev cX5_chance : ByteArray := prog_1_method_13_code
def yX5_chance : MethodName := ⟨RX5, "chance", "(II)I"⟩
abbrev cX5_best : ByteArray := prog_1_method_14_code
def yX5_best : MethodName := ⟨RX5, "best", "(II)I"⟩
abbrev cX5_ahead : ByteArray := prog_1_method_15_code
def yX5_ahead : MethodName := ⟨RX5, "ahead", "()I"⟩
abbrev cX5_write : ByteArray := prog_1_method_16_code
def yX5_write : MethodName := ⟨RX5, "write", "(III)I"⟩
abbrev cX5_wipe : ByteArray := prog_1_method_17_code
def yX5_wipe : MethodName := ⟨RX5, "wipe", "()I"⟩
abbrev cX5_wrong : ByteArray := prog_1_method_18_code
def yX5_wrong : MethodName := ⟨RX5, "wrong", "()I"⟩
abbrev cX5_canBe : ByteArray := prog_1_method_19_code
def yX5_canBe : MethodName := ⟨RX5, "canBe", "(I)I"⟩
abbrev cX5_seen : ByteArray := prog_1_method_20_code
def yX5_seen : MethodName := ⟨RX5, "seen", "(IIIIIII)I"⟩
abbrev cX5_scatter : ByteArray := prog_1_method_21_code
def yX5_scatter : MethodName := ⟨RX5, "scatter", "(III)I"⟩
abbrev cX5_keep : ByteArray := prog_1_method_22_code
def yX5_keep : MethodName := ⟨RX5, "keep", "()I"⟩
abbrev cX5_back : ByteArray := prog_1_method_23_code
def yX5_back : MethodName := ⟨RX5, "back", "()I"⟩
abbrev cX5_count : ByteArray := prog_1_method_24_code
def yX5_count : MethodName := ⟨RX5, "count", "(I)I"⟩
abbrev cX5_twelfthsOf : ByteArray := prog_1_method_25_code
def yX5_twelfthsOf : MethodName := ⟨RX5, "twelfthsOf", "(I)I"⟩
abbrev cX5_within : ByteArray := prog_1_method_26_code
def yX5_within : MethodName := ⟨RX5, "within", "(III)Z"⟩
abbrev cX5_isPlayer : ByteArray := prog_1_method_27_code
def yX5_isPlayer : MethodName := ⟨RX5, "isPlayer", "(I)Z"⟩
abbrev cX5_isDisc : ByteArray := prog_1_method_28_code
def yX5_isDisc : MethodName := ⟨RX5, "isDisc", "(I)Z"⟩
abbrev cX5_isPlace : ByteArray := prog_1_method_29_code
def yX5_isPlace : MethodName := ⟨RX5, "isPlace", "(II)Z"⟩
abbrev cX5_isMarkOrPlace : ByteArray := prog_1_method_30_code
def yX5_isMarkOrPlace : MethodName := ⟨RX5, "isMarkOrPlace", "(II)Z"⟩
abbrev cX5_playerOf : ByteArray := prog_1_method_31_code
def yX5_playerOf : MethodName := ⟨RX5, "playerOf", "(I)I"⟩
abbrev cX5_sizeOf : ByteArray := prog_1_method_32_code
def yX5_sizeOf : MethodName := ⟨RX5, "sizeOf", "(I)I"⟩
abbrev cX5_wayBetween : ByteArray := prog_1_method_33_code
def yX5_wayBetween : MethodName := ⟨RX5, "wayBetween", "(IIII)I"⟩
def RX6 : String := "JumpDiscsModel"
def TX6 : u_T := fun k => match k with
  | 0 => ("JumpDiscsModel", "board", "[I", true)
  | 1 => ("JumpDiscsModel", "other", "[I", true)
  | 2 => ("JumpDiscsModel", "kept", "[I", true)
  | 3 => ("JumpDiscsModel", "keptMany", "I", false)
  | 4 => ("JumpDiscsModel", "isOther", "Z", false)
  | 5 => ("JumpDiscsModel", "bestDisc", "I", false)
  | 6 => ("JumpDiscsModel", "bestAim", "I", false)
  | 7 => ("JumpDiscsModel", "bestWorth", "I", false)
  | 8 => ("JumpDiscsModel", "rowMany", "I", false)
  | 9 => ("JumpDiscsModel", "rowDisc", "[I", true)
  | 10 => ("JumpDiscsModel", "rowX", "[I", true)
  | 11 => ("JumpDiscsModel", "rowY", "[I", true)
  | 12 => ("JumpDiscsModel", "pairs", "[I", true)
  | _ => ("JumpDiscsModel", "offs", "[I", true)
def tyX6 : Nat → FieldType := fun k => match k with
  | 0 => .array .int
  | 1 => .array .int
  | 2 => .array .int
  | 3 => .int
  | 4 => .boolean
  | 5 => .int
  | 6 => .int
  | 7 => .int
  | 8 => .int
  | 9 => .array .int
  | 10 => .array .int
  | 11 => .array .int
  | 12 => .array .int
  | _ => .array .int
theorem nmX6 : ∀ a, a < 14 → ∀ b, b < 14 → a ≠ b → (TX6 a).2.1 ≠ (TX6 b).2.1 := by decide +kernel
theorem tyX6_ok : ∀ k, k < 14 → parseFieldDescriptor (TX6 k).2.2.1 = some (tyX6 k) := by decide +kernel
abbrev cX6_init : ByteArray := prog_8_method_1_code
def yX6_init : MethodName := ⟨RX6, "<init>", "()V"⟩
abbrev cX6_in : ByteArray := prog_8_method_2_code
def yX6_in : MethodName := ⟨RX6, "in", "(III)Z"⟩
abbrev cX6_size : ByteArray := prog_8_method_3_code
def yX6_size : MethodName := ⟨RX6, "size", "(I)I"⟩
abbrev cX6_sign : ByteArray := prog_8_method_4_code
def yX6_sign : MethodName := ⟨RX6, "sign", "(I)I"⟩
abbrev cX6_at : ByteArray := prog_8_method_5_code
def yX6_at : MethodName := ⟨RX6, "at", "(I)I"⟩
abbrev cX6_lay : ByteArray := prog_8_method_6_code
def yX6_lay : MethodName := ⟨RX6, "lay", "(II)V"⟩
abbrev cX6_how : ByteArray := prog_8_method_7_code
def yX6_how : MethodName := ⟨RX6, "how", "(I)I"⟩
abbrev cX6_baseX : ByteArray := prog_8_method_8_code
def yX6_baseX : MethodName := ⟨RX6, "baseX", "(I)I"⟩
abbrev cX6_baseY : ByteArray := prog_8_method_9_code
def yX6_baseY : MethodName := ⟨RX6, "baseY", "(I)I"⟩
abbrev cX6_xOf : ByteArray := prog_8_method_10_code
def yX6_xOf : MethodName := ⟨RX6, "xOf", "(I)I"⟩
abbrev cX6_yOf : ByteArray := prog_8_method_11_code
def yX6_yOf : MethodName := ⟨RX6, "yOf", "(I)I"⟩
abbrev cX6_sizeOf : ByteArray := prog_8_method_12_code
def yX6_sizeOf : MethodName := ⟨RX6, "sizeOf", "(I)I"⟩
abbrev cX6_turn : ByteArray := prog_8_method_13_code
def yX6_turn : MethodName := ⟨RX6, "turn", "()I"⟩
abbrev cX6_gone : ByteArray := prog_8_method_14_code
def yX6_gone : MethodName := ⟨RX6, "gone", "()I"⟩
abbrev cX6_isCome : ByteArray := prog_8_method_15_code
def yX6_isCome : MethodName := ⟨RX6, "isCome", "()Z"⟩
abbrev cX6_clear : ByteArray := prog_8_method_16_code
def yX6_clear : MethodName := ⟨RX6, "clear", "()V"⟩
abbrev cX6_place : ByteArray := prog_8_method_17_code
def yX6_place : MethodName := ⟨RX6, "place", "(III)V"⟩
abbrev cX6_isOff : ByteArray := prog_8_method_18_code
def yX6_isOff : MethodName := ⟨RX6, "isOff", "(I)Z"⟩
abbrev cX6_covers : ByteArray := prog_8_method_19_code
def yX6_covers : MethodName := ⟨RX6, "covers", "(II)Z"⟩
abbrev cX6_coverers : ByteArray := prog_8_method_20_code
def yX6_coverers : MethodName := ⟨RX6, "coverers", "(I)I"⟩
abbrev cX6_covered : ByteArray := prog_8_method_21_code
def yX6_covered : MethodName := ⟨RX6, "covered", "(I)I"⟩
abbrev cX6_isFree : ByteArray := prog_8_method_22_code
def yX6_isFree : MethodName := ⟨RX6, "isFree", "(I)Z"⟩
abbrev cX6_pile : ByteArray := prog_8_method_23_code
def yX6_pile : MethodName := ⟨RX6, "pile", "(I)I"⟩
abbrev cX6_freeOf : ByteArray := prog_8_method_24_code
def yX6_freeOf : MethodName := ⟨RX6, "freeOf", "(I)I"⟩
abbrev cX6_allIn : ByteArray := prog_8_method_25_code
def yX6_allIn : MethodName := ⟨RX6, "allIn", "(I)Z"⟩
abbrev cX6_isOver : ByteArray := prog_8_method_26_code
def yX6_isOver : MethodName := ⟨RX6, "isOver", "()Z"⟩
abbrev cX6_next : ByteArray := prog_8_method_27_code
def yX6_next : MethodName := ⟨RX6, "next", "(IZ)I"⟩
abbrev cX6_passOver : ByteArray := prog_8_method_28_code
def yX6_passOver : MethodName := ⟨RX6, "passOver", "(IZ)V"⟩
abbrev cX6_goOn : ByteArray := prog_8_method_29_code
def yX6_goOn : MethodName := ⟨RX6, "goOn", "(Z)V"⟩
abbrev cX6_anew : ByteArray := prog_8_method_30_code
def yX6_anew : MethodName := ⟨RX6, "anew", "()I"⟩
abbrev cX6_rule : ByteArray := prog_8_method_31_code
def yX6_rule : MethodName := ⟨RX6, "rule", "(II)I"⟩
abbrev cX6_seed : ByteArray := prog_8_method_32_code
def yX6_seed : MethodName := ⟨RX6, "seed", "(I)I"⟩
abbrev cX6_isDisc : ByteArray := prog_8_method_33_code
def yX6_isDisc : MethodName := ⟨RX6, "isDisc", "(I)Z"⟩
abbrev cX6_isSpot : ByteArray := prog_8_method_34_code
def yX6_isSpot : MethodName := ⟨RX6, "isSpot", "(II)Z"⟩
abbrev cX6_isCup : ByteArray := prog_8_method_35_code
def yX6_isCup : MethodName := ⟨RX6, "isCup", "(II)Z"⟩
abbrev cX6_isNowhere : ByteArray := prog_8_method_36_code
def yX6_isNowhere : MethodName := ⟨RX6, "isNowhere", "(II)Z"⟩
abbrev cX6_put : ByteArray := prog_8_method_37_code
def yX6_put : MethodName := ⟨RX6, "put", "(III)I"⟩
abbrev cX6_about : ByteArray := prog_8_method_38_code
def yX6_about : MethodName := ⟨RX6, "about", "(II)I"⟩
abbrev cX6_draw : ByteArray := prog_8_method_39_code
def yX6_draw : MethodName := ⟨RX6, "draw", "(I)I"⟩
abbrev cX6_onMat : ByteArray := prog_8_method_40_code
def yX6_onMat : MethodName := ⟨RX6, "onMat", "(I)I"⟩
abbrev cX6_wayOf : ByteArray := prog_8_method_41_code
def yX6_wayOf : MethodName := ⟨RX6, "wayOf", "(IIII)I"⟩
abbrev cX6_mayShoot : ByteArray := prog_8_method_42_code
def yX6_mayShoot : MethodName := ⟨RX6, "mayShoot", "(I)Z"⟩
abbrev cX6_shoot : ByteArray := prog_8_method_43_code
def yX6_shoot : MethodName := ⟨RX6, "shoot", "(III)I"⟩
abbrev cX6_blow : ByteArray := prog_8_method_44_code
def yX6_blow : MethodName := ⟨RX6, "blow", "(I)I"⟩
abbrev cX6_game : ByteArray := prog_8_method_45_code
def yX6_game : MethodName := ⟨RX6, "game", "(I)I"⟩
abbrev cX6_isPlayer : ByteArray := prog_8_method_46_code
def yX6_isPlayer : MethodName := ⟨RX6, "isPlayer", "(I)Z"⟩
abbrev cX6_scoreOf : ByteArray := prog_8_method_47_code
def yX6_scoreOf : MethodName := ⟨RX6, "scoreOf", "(I)I"⟩
abbrev cX6_score : ByteArray := prog_8_method_48_code
def yX6_score : MethodName := ⟨RX6, "score", "(I)I"⟩
abbrev cX6_rank : ByteArray := prog_8_method_49_code
def yX6_rank : MethodName := ⟨RX6, "rank", "(I)I"⟩
abbrev cX6_twelfthsOf : ByteArray := prog_8_method_50_code
def yX6_twelfthsOf : MethodName := ⟨RX6, "twelfthsOf", "(I)I"⟩
abbrev cX6_twelfths : ByteArray := prog_8_method_51_code
def yX6_twelfths : MethodName := ⟨RX6, "twelfths", "(I)I"⟩
abbrev cX6_points : ByteArray := prog_8_method_52_code
def yX6_points : MethodName := ⟨RX6, "points", "(I)I"⟩
abbrev cX6_chanceOf : ByteArray := prog_8_method_53_code
def yX6_chanceOf : MethodName := ⟨RX6, "chanceOf", "(II)I"⟩
abbrev cX6_chance : ByteArray := prog_8_method_54_code
def yX6_chance : MethodName := ⟨RX6, "chance", "(II)I"⟩
abbrev cX6_gainOf : ByteArray := prog_8_method_55_code
def yX6_gainOf : MethodName := ⟨RX6, "gainOf", "(II)I"⟩
abbrev cX6_layBest : ByteArray := prog_8_method_56_code
def yX6_layBest : MethodName := ⟨RX6, "layBest", "(I)V"⟩
abbrev cX6_best : ByteArray := prog_8_method_57_code
def yX6_best : MethodName := ⟨RX6, "best", "(II)I"⟩
abbrev cX6_ahead : ByteArray := prog_8_method_58_code
def yX6_ahead : MethodName := ⟨RX6, "ahead", "()I"⟩
abbrev cX6_write : ByteArray := prog_8_method_59_code
def yX6_write : MethodName := ⟨RX6, "write", "(III)I"⟩
abbrev cX6_wipe : ByteArray := prog_8_method_60_code
def yX6_wipe : MethodName := ⟨RX6, "wipe", "()I"⟩
abbrev cX6_wrongWith : ByteArray := prog_8_method_61_code
def yX6_wrongWith : MethodName := ⟨RX6, "wrongWith", "(II)I"⟩
abbrev cX6_wrong : ByteArray := prog_8_method_62_code
def yX6_wrong : MethodName := ⟨RX6, "wrong", "()I"⟩
abbrev cX6_canBe : ByteArray := prog_8_method_63_code
def yX6_canBe : MethodName := ⟨RX6, "canBe", "(I)I"⟩
abbrev cX6_pairsOf : ByteArray := prog_8_method_64_code
def yX6_pairsOf : MethodName := ⟨RX6, "pairsOf", "(I)I"⟩
abbrev cX6_seen : ByteArray := prog_8_method_65_code
def yX6_seen : MethodName := ⟨RX6, "seen", "(IIIIIII)I"⟩
abbrev cX6_scatter : ByteArray := prog_8_method_66_code
def yX6_scatter : MethodName := ⟨RX6, "scatter", "(III)I"⟩
abbrev cX6_keep : ByteArray := prog_8_method_67_code
def yX6_keep : MethodName := ⟨RX6, "keep", "()I"⟩
abbrev cX6_back : ByteArray := prog_8_method_68_code
def yX6_back : MethodName := ⟨RX6, "back", "()I"⟩
abbrev cX6_count : ByteArray := prog_8_method_69_code
def yX6_count : MethodName := ⟨RX6, "count", "(I)I"⟩
def RJ6 : String := "java/lang/Integer"
abbrev cJ6_bitCount_0f7a4 : ByteArray := prog_9_method_49_code
def yJ6_bitCount_0f7a4 : MethodName := ⟨RJ6, "bitCount", "(I)I"⟩
def RJ9 : String := "java/lang/Math"
abbrev cJ9_abs_0f7a4 : ByteArray := prog_10_method_59_code
def yJ9_abs_0f7a4 : MethodName := ⟨RJ9, "abs", "(I)I"⟩
abbrev cJ9_max_7cf53 : ByteArray := prog_10_method_65_code
def yJ9_max_7cf53 : MethodName := ⟨RJ9, "max", "(II)I"⟩
abbrev cJ9_min_7cf53 : ByteArray := prog_10_method_69_code
def yJ9_min_7cf53 : MethodName := ⟨RJ9, "min", "(II)I"⟩
def RJ10 : String := "java/lang/System"
def RL : String := "JumpDiscsLaw"
abbrev cL_law : ByteArray := code
def yL_law : MethodName := ⟨RL, "law", "([I)Z"⟩
abbrev vwCl : List vw_C := [(RX0, TX0, 3), (RX1, TX1, 6), (RX2, TX2, 8), (RX3, TX3, 9), (RX4, TX4, 3), (RX5, TX5, 6), (RX6, TX6, 14)]
end
section
theorem dX0_init_0 : decode cX0_init 0 = .ok (.aload_n 0, 1) := by decide +kernel
theorem dX0_init_1 : decode cX0_init 1 = .ok (.invokespecial 3, 3) := by decide +kernel
theorem dX0_init_4 : decode cX0_init 4 = .ok (.aload_n 0, 1) := by decide +kernel
theorem dX0_init_5 : decode cX0_init 5 = .ok (.iconst 0, 1) := by decide +kernel
theorem dX0_init_6 : decode cX0_init 6 = .ok (.putfield 9, 3) := by decide +kernel
theorem dX0_init_9 : decode cX0_init 9 = .ok (.aload_n 0, 1) := by decide +kernel
theorem dX0_init_10 : decode cX0_init 10 = .ok (.iconst (-1), 1) := by decide +kernel
theorem dX0_init_11 : decode cX0_init 11 = .ok (.putfield 15, 3) := by decide +kernel
theorem dX0_init_14 : decode cX0_init 14 = .ok (.aload_n 0, 1) := by decide +kernel
theorem dX0_init_15 : decode cX0_init 15 = .ok (.iconst 0, 1) := by decide +kernel
theorem dX0_init_16 : decode cX0_init 16 = .ok (.putfield 18, 3) := by decide +kernel
theorem dX0_init_19 : decode cX0_init 19 = .ok (.return_, 1) := by decide +kernel
theorem dX0_worthOfBest_0 : decode cX0_worthOfBest 0 = .ok (.aload_n 0, 1) := by decide +kernel
theorem dX0_worthOfBest_1 : decode cX0_worthOfBest 1 = .ok (.iconst 0, 1) := by decide +kernel
theorem dX0_worthOfBest_2 : decode cX0_worthOfBest 2 = .ok (.putfield 18, 3) := by decide +kernel
theorem dX0_worthOfBest_5 : decode cX0_worthOfBest 5 = .ok (.iconst 0, 1) := by decide +kernel
theorem dX0_worthOfBest_6 : decode cX0_worthOfBest 6 = .ok (.istore_n 3, 1) := by decide +kernel
theorem dX0_worthOfBest_7 : decode cX0_worthOfBest 7 = .ok (.iload_n 3, 1) := by decide +kernel
theorem dX0_worthOfBest_8 : decode cX0_worthOfBest 8 = .ok (.iconst 4, 1) := by decide +kernel
theorem dX0_worthOfBest_9 : decode cX0_worthOfBest 9 = .ok (.if_icmp .ge 32, 3) := by decide +kernel
theorem dX0_worthOfBest_12 : decode cX0_worthOfBest 12 = .ok (.iload_n 2, 1) := by decide +kernel
theorem dX0_worthOfBest_13 : decode cX0_worthOfBest 13 = .ok (.iconst 4, 1) := by decide +kernel
theorem dX0_worthOfBest_14 : decode cX0_worthOfBest 14 = .ok (.iload_n 3, 1) := by decide +kernel
theorem dX0_worthOfBest_15 : decode cX0_worthOfBest 15 = .ok (.imul, 1) := by decide +kernel
theorem dX0_worthOfBest_16 : decode cX0_worthOfBest 16 = .ok (.iadd, 1) := by decide +kernel
theorem dX0_worthOfBest_17 : decode cX0_worthOfBest 17 = .ok (.istore 4, 2) := by decide +kernel
theorem dX0_worthOfBest_19 : decode cX0_worthOfBest 19 = .ok (.aload_n 1, 1) := by decide +kernel
theorem dX0_worthOfBest_20 : decode cX0_worthOfBest 20 = .ok (.iload 4, 2) := by decide +kernel
theorem dX0_worthOfBest_22 : decode cX0_worthOfBest 22 = .ok (.invokevirtual 21, 3) := by decide +kernel
theorem dX0_worthOfBest_25 : decode cX0_worthOfBest 25 = .ok (.ifCond .eq 10, 3) := by decide +kernel
theorem dX0_worthOfBest_28 : decode cX0_worthOfBest 28 = .ok (.aload_n 0, 1) := by decide +kernel
theorem dX0_worthOfBest_29 : decode cX0_worthOfBest 29 = .ok (.aload_n 1, 1) := by decide +kernel
theorem dX0_worthOfBest_30 : decode cX0_worthOfBest 30 = .ok (.iload 4, 2) := by decide +kernel
theorem dX0_worthOfBest_32 : decode cX0_worthOfBest 32 = .ok (.invokevirtual 27, 3) := by decide +kernel
theorem dX0_worthOfBest_35 : decode cX0_worthOfBest 35 = .ok (.iinc 3 1, 3) := by decide +kernel
theorem dX0_worthOfBest_38 : decode cX0_worthOfBest 38 = .ok (.goto (-31), 3) := by decide +kernel
theorem dX0_worthOfBest_41 : decode cX0_worthOfBest 41 = .ok (.aload_n 0, 1) := by decide +kernel
theorem dX0_worthOfBest_42 : decode cX0_worthOfBest 42 = .ok (.getfield 18, 3) := by decide +kernel
theorem dX0_worthOfBest_45 : decode cX0_worthOfBest 45 = .ok (.ireturn, 1) := by decide +kernel
theorem dX0_weighAims_0 : decode cX0_weighAims 0 = .ok (.aload_n 0, 1) := by decide +kernel
theorem dX0_weighAims_1 : decode cX0_weighAims 1 = .ok (.aload_n 1, 1) := by decide +kernel
theorem dX0_weighAims_2 : decode cX0_weighAims 2 = .ok (.iload_n 2, 1) := by decide +kernel
theorem dX0_weighAims_3 : decode cX0_weighAims 3 = .ok (.iconst (-1), 1) := by decide +kernel
theorem dX0_weighAims_4 : decode cX0_weighAims 4 = .ok (.invokevirtual 31, 3) := by decide +kernel
theorem dX0_weighAims_7 : decode cX0_weighAims 7 = .ok (.iconst 0, 1) := by decide +kernel
theorem dX0_weighAims_8 : decode cX0_weighAims 8 = .ok (.istore_n 3, 1) := by decide +kernel
theorem dX0_weighAims_9 : decode cX0_weighAims 9 = .ok (.iload_n 3, 1) := by decide +kernel
theorem dX0_weighAims_10 : decode cX0_weighAims 10 = .ok (.bipush 16, 2) := by decide +kernel
theorem dX0_weighAims_12 : decode cX0_weighAims 12 = .ok (.if_icmp .ge 52, 3) := by decide +kernel
theorem dX0_weighAims_15 : decode cX0_weighAims 15 = .ok (.iload_n 3, 1) := by decide +kernel
theorem dX0_weighAims_16 : decode cX0_weighAims 16 = .ok (.iload_n 2, 1) := by decide +kernel
theorem dX0_weighAims_17 : decode cX0_weighAims 17 = .ok (.isub, 1) := by decide +kernel
theorem dX0_weighAims_18 : decode cX0_weighAims 18 = .ok (.iconst 2, 1) := by decide +kernel
theorem dX0_weighAims_19 : decode cX0_weighAims 19 = .ok (.irem, 1) := by decide +kernel
theorem dX0_weighAims_20 : decode cX0_weighAims 20 = .ok (.ifCond .eq 7, 3) := by decide +kernel
theorem dX0_weighAims_23 : decode cX0_weighAims 23 = .ok (.iconst 1, 1) := by decide +kernel
theorem dX0_weighAims_24 : decode cX0_weighAims 24 = .ok (.goto 4, 3) := by decide +kernel
theorem dX0_weighAims_27 : decode cX0_weighAims 27 = .ok (.iconst 0, 1) := by decide +kernel
theorem dX0_weighAims_28 : decode cX0_weighAims 28 = .ok (.istore 4, 2) := by decide +kernel
theorem dX0_weighAims_30 : decode cX0_weighAims 30 = .ok (.iload 4, 2) := by decide +kernel
theorem dX0_weighAims_32 : decode cX0_weighAims 32 = .ok (.ifCond .eq 26, 3) := by decide +kernel
theorem dX0_weighAims_35 : decode cX0_weighAims 35 = .ok (.aload_n 1, 1) := by decide +kernel
theorem dX0_weighAims_36 : decode cX0_weighAims 36 = .ok (.iload_n 3, 1) := by decide +kernel
theorem dX0_weighAims_37 : decode cX0_weighAims 37 = .ok (.invokevirtual 35, 3) := by decide +kernel
theorem dX0_weighAims_40 : decode cX0_weighAims 40 = .ok (.ifCond .eq 18, 3) := by decide +kernel
theorem dX0_weighAims_43 : decode cX0_weighAims 43 = .ok (.aload_n 1, 1) := by decide +kernel
theorem dX0_weighAims_44 : decode cX0_weighAims 44 = .ok (.iload_n 3, 1) := by decide +kernel
theorem dX0_weighAims_45 : decode cX0_weighAims 45 = .ok (.invokevirtual 21, 3) := by decide +kernel
theorem dX0_weighAims_48 : decode cX0_weighAims 48 = .ok (.ifCond .eq 10, 3) := by decide +kernel
theorem dX0_weighAims_51 : decode cX0_weighAims 51 = .ok (.aload_n 0, 1) := by decide +kernel
theorem dX0_weighAims_52 : decode cX0_weighAims 52 = .ok (.aload_n 1, 1) := by decide +kernel
theorem dX0_weighAims_53 : decode cX0_weighAims 53 = .ok (.iload_n 2, 1) := by decide +kernel
theorem dX0_weighAims_54 : decode cX0_weighAims 54 = .ok (.iload_n 3, 1) := by decide +kernel
theorem dX0_weighAims_55 : decode cX0_weighAims 55 = .ok (.invokevirtual 31, 3) := by decide +kernel
theorem dX0_weighAims_58 : decode cX0_weighAims 58 = .ok (.iinc 3 1, 3) := by decide +kernel
theorem dX0_weighAims_61 : decode cX0_weighAims 61 = .ok (.goto (-52), 3) := by decide +kernel
theorem dX0_weighAims_64 : decode cX0_weighAims 64 = .ok (.return_, 1) := by decide +kernel
theorem dX0_weigh_0 : decode cX0_weigh 0 = .ok (.aload_n 1, 1) := by decide +kernel
theorem dX0_weigh_1 : decode cX0_weigh 1 = .ok (.iload_n 2, 1) := by decide +kernel
theorem dX0_weigh_2 : decode cX0_weigh 2 = .ok (.iload_n 3, 1) := by decide +kernel
theorem dX0_weigh_3 : decode cX0_weigh 3 = .ok (.invokestatic 38, 3) := by decide +kernel
theorem dX0_weigh_6 : decode cX0_weigh 6 = .ok (.aload_n 1, 1) := by decide +kernel
theorem dX0_weigh_7 : decode cX0_weigh 7 = .ok (.iload_n 2, 1) := by decide +kernel
theorem dX0_weigh_8 : decode cX0_weigh 8 = .ok (.iload_n 3, 1) := by decide +kernel
theorem dX0_weigh_9 : decode cX0_weigh 9 = .ok (.invokestatic 42, 3) := by decide +kernel
theorem dX0_weigh_12 : decode cX0_weigh 12 = .ok (.imul, 1) := by decide +kernel
theorem dX0_weigh_13 : decode cX0_weigh 13 = .ok (.istore 4, 2) := by decide +kernel
theorem dX0_weigh_15 : decode cX0_weigh 15 = .ok (.iload 4, 2) := by decide +kernel
theorem dX0_weigh_17 : decode cX0_weigh 17 = .ok (.aload_n 0, 1) := by decide +kernel
theorem dX0_weigh_18 : decode cX0_weigh 18 = .ok (.getfield 18, 3) := by decide +kernel
theorem dX0_weigh_21 : decode cX0_weigh 21 = .ok (.if_icmp .le 19, 3) := by decide +kernel
theorem dX0_weigh_24 : decode cX0_weigh 24 = .ok (.aload_n 0, 1) := by decide +kernel
theorem dX0_weigh_25 : decode cX0_weigh 25 = .ok (.iload_n 2, 1) := by decide +kernel
theorem dX0_weigh_26 : decode cX0_weigh 26 = .ok (.putfield 9, 3) := by decide +kernel
theorem dX0_weigh_29 : decode cX0_weigh 29 = .ok (.aload_n 0, 1) := by decide +kernel
theorem dX0_weigh_30 : decode cX0_weigh 30 = .ok (.iload_n 3, 1) := by decide +kernel
theorem dX0_weigh_31 : decode cX0_weigh 31 = .ok (.putfield 15, 3) := by decide +kernel
theorem dX0_weigh_34 : decode cX0_weigh 34 = .ok (.aload_n 0, 1) := by decide +kernel
theorem dX0_weigh_35 : decode cX0_weigh 35 = .ok (.iload 4, 2) := by decide +kernel
theorem dX0_weigh_37 : decode cX0_weigh 37 = .ok (.putfield 18, 3) := by decide +kernel
theorem dX0_weigh_40 : decode cX0_weigh 40 = .ok (.return_, 1) := by decide +kernel
theorem dX0_chanceOf_0 : decode cX0_chanceOf 0 = .ok (.iload_n 2, 1) := by decide +kernel
theorem dX0_chanceOf_1 : decode cX0_chanceOf 1 = .ok (.iconst (-1), 1) := by decide +kernel
theorem dX0_chanceOf_2 : decode cX0_chanceOf 2 = .ok (.if_icmp .ne 16, 3) := by decide +kernel
theorem dX0_chanceOf_5 : decode cX0_chanceOf 5 = .ok (.iconst 1, 1) := by decide +kernel
theorem dX0_chanceOf_6 : decode cX0_chanceOf 6 = .ok (.bipush 36, 2) := by decide +kernel
theorem dX0_chanceOf_8 : decode cX0_chanceOf 8 = .ok (.aload_n 0, 1) := by decide +kernel
theorem dX0_chanceOf_9 : decode cX0_chanceOf 9 = .ok (.iload_n 1, 1) := by decide +kernel
theorem dX0_chanceOf_10 : decode cX0_chanceOf 10 = .ok (.invokestatic 45, 3) := by decide +kernel
theorem dX0_chanceOf_13 : decode cX0_chanceOf 13 = .ok (.isub, 1) := by decide +kernel
theorem dX0_chanceOf_14 : decode cX0_chanceOf 14 = .ok (.invokestatic 49, 3) := by decide +kernel
theorem dX0_chanceOf_17 : decode cX0_chanceOf 17 = .ok (.ireturn, 1) := by decide +kernel
theorem dX0_chanceOf_18 : decode cX0_chanceOf 18 = .ok (.aload_n 0, 1) := by decide +kernel
theorem dX0_chanceOf_19 : decode cX0_chanceOf 19 = .ok (.getfield 55, 3) := by decide +kernel
theorem dX0_chanceOf_22 : decode cX0_chanceOf 22 = .ok (.iload_n 1, 1) := by decide +kernel
theorem dX0_chanceOf_23 : decode cX0_chanceOf 23 = .ok (.iaload, 1) := by decide +kernel
theorem dX0_chanceOf_24 : decode cX0_chanceOf 24 = .ok (.aload_n 0, 1) := by decide +kernel
theorem dX0_chanceOf_25 : decode cX0_chanceOf 25 = .ok (.getfield 59, 3) := by decide +kernel
theorem dX0_chanceOf_28 : decode cX0_chanceOf 28 = .ok (.iload_n 1, 1) := by decide +kernel
theorem dX0_chanceOf_29 : decode cX0_chanceOf 29 = .ok (.iaload, 1) := by decide +kernel
theorem dX0_chanceOf_30 : decode cX0_chanceOf 30 = .ok (.aload_n 0, 1) := by decide +kernel
theorem dX0_chanceOf_31 : decode cX0_chanceOf 31 = .ok (.getfield 55, 3) := by decide +kernel
theorem dX0_chanceOf_34 : decode cX0_chanceOf 34 = .ok (.iload_n 2, 1) := by decide +kernel
theorem dX0_chanceOf_35 : decode cX0_chanceOf 35 = .ok (.iaload, 1) := by decide +kernel
theorem dX0_chanceOf_36 : decode cX0_chanceOf 36 = .ok (.aload_n 0, 1) := by decide +kernel
theorem dX0_chanceOf_37 : decode cX0_chanceOf 37 = .ok (.getfield 59, 3) := by decide +kernel
theorem dX0_chanceOf_40 : decode cX0_chanceOf 40 = .ok (.iload_n 2, 1) := by decide +kernel
theorem dX0_chanceOf_41 : decode cX0_chanceOf 41 = .ok (.iaload, 1) := by decide +kernel
theorem dX0_chanceOf_42 : decode cX0_chanceOf 42 = .ok (.invokestatic 62, 3) := by decide +kernel
theorem dX0_chanceOf_45 : decode cX0_chanceOf 45 = .ok (.istore_n 3, 1) := by decide +kernel
theorem dX0_chanceOf_46 : decode cX0_chanceOf 46 = .ok (.iconst 1, 1) := by decide +kernel
theorem dX0_chanceOf_47 : decode cX0_chanceOf 47 = .ok (.bipush 36, 2) := by decide +kernel
theorem dX0_chanceOf_49 : decode cX0_chanceOf 49 = .ok (.iload_n 1, 1) := by decide +kernel
theorem dX0_chanceOf_50 : decode cX0_chanceOf 50 = .ok (.bipush 8, 2) := by decide +kernel
theorem dX0_chanceOf_52 : decode cX0_chanceOf 52 = .ok (.if_icmp .ge 9, 3) := by decide +kernel
theorem dX0_chanceOf_55 : decode cX0_chanceOf 55 = .ok (.iconst 2, 1) := by decide +kernel
theorem dX0_chanceOf_56 : decode cX0_chanceOf 56 = .ok (.iload_n 3, 1) := by decide +kernel
theorem dX0_chanceOf_57 : decode cX0_chanceOf 57 = .ok (.imul, 1) := by decide +kernel
theorem dX0_chanceOf_58 : decode cX0_chanceOf 58 = .ok (.goto 4, 3) := by decide +kernel
theorem dX0_chanceOf_61 : decode cX0_chanceOf 61 = .ok (.iload_n 3, 1) := by decide +kernel
theorem dX0_chanceOf_62 : decode cX0_chanceOf 62 = .ok (.isub, 1) := by decide +kernel
theorem dX0_chanceOf_63 : decode cX0_chanceOf 63 = .ok (.invokestatic 49, 3) := by decide +kernel
theorem dX0_chanceOf_66 : decode cX0_chanceOf 66 = .ok (.ireturn, 1) := by decide +kernel
theorem dX0_gainOf_0 : decode cX0_gainOf 0 = .ok (.iload_n 2, 1) := by decide +kernel
theorem dX0_gainOf_1 : decode cX0_gainOf 1 = .ok (.iconst (-1), 1) := by decide +kernel
theorem dX0_gainOf_2 : decode cX0_gainOf 2 = .ok (.if_icmp .ne 17, 3) := by decide +kernel
theorem dX0_gainOf_5 : decode cX0_gainOf 5 = .ok (.aload_n 0, 1) := by decide +kernel
theorem dX0_gainOf_6 : decode cX0_gainOf 6 = .ok (.iload_n 1, 1) := by decide +kernel
theorem dX0_gainOf_7 : decode cX0_gainOf 7 = .ok (.invokevirtual 66, 3) := by decide +kernel
theorem dX0_gainOf_10 : decode cX0_gainOf 10 = .ok (.ifCond .eq 7, 3) := by decide +kernel
theorem dX0_gainOf_13 : decode cX0_gainOf 13 = .ok (.iconst 3, 1) := by decide +kernel
theorem dX0_gainOf_14 : decode cX0_gainOf 14 = .ok (.goto 4, 3) := by decide +kernel
theorem dX0_gainOf_17 : decode cX0_gainOf 17 = .ok (.iconst 2, 1) := by decide +kernel
theorem dX0_gainOf_18 : decode cX0_gainOf 18 = .ok (.ireturn, 1) := by decide +kernel
theorem dX0_gainOf_19 : decode cX0_gainOf 19 = .ok (.aload_n 0, 1) := by decide +kernel
theorem dX0_gainOf_20 : decode cX0_gainOf 20 = .ok (.iload_n 2, 1) := by decide +kernel
theorem dX0_gainOf_21 : decode cX0_gainOf 21 = .ok (.invokestatic 45, 3) := by decide +kernel
theorem dX0_gainOf_24 : decode cX0_gainOf 24 = .ok (.bipush 6, 2) := by decide +kernel
theorem dX0_gainOf_26 : decode cX0_gainOf 26 = .ok (.if_icmp .gt 7, 3) := by decide +kernel
theorem dX0_gainOf_29 : decode cX0_gainOf 29 = .ok (.iconst 1, 1) := by decide +kernel
theorem dX0_gainOf_30 : decode cX0_gainOf 30 = .ok (.goto 4, 3) := by decide +kernel
theorem dX0_gainOf_33 : decode cX0_gainOf 33 = .ok (.iconst 0, 1) := by decide +kernel
theorem dX0_gainOf_34 : decode cX0_gainOf 34 = .ok (.istore_n 3, 1) := by decide +kernel
theorem dX0_gainOf_35 : decode cX0_gainOf 35 = .ok (.sipush 21845, 3) := by decide +kernel
theorem dX0_gainOf_38 : decode cX0_gainOf 38 = .ok (.iload_n 1, 1) := by decide +kernel
theorem dX0_gainOf_39 : decode cX0_gainOf 39 = .ok (.iconst 2, 1) := by decide +kernel
theorem dX0_gainOf_40 : decode cX0_gainOf 40 = .ok (.irem, 1) := by decide +kernel
theorem dX0_gainOf_41 : decode cX0_gainOf 41 = .ok (.ishl, 1) := by decide +kernel
theorem dX0_gainOf_42 : decode cX0_gainOf 42 = .ok (.istore 4, 2) := by decide +kernel
theorem dX0_gainOf_44 : decode cX0_gainOf 44 = .ok (.iconst 1, 1) := by decide +kernel
theorem dX0_gainOf_45 : decode cX0_gainOf 45 = .ok (.iload_n 3, 1) := by decide +kernel
theorem dX0_gainOf_46 : decode cX0_gainOf 46 = .ok (.iadd, 1) := by decide +kernel
theorem dX0_gainOf_47 : decode cX0_gainOf 47 = .ok (.aload_n 0, 1) := by decide +kernel
theorem dX0_gainOf_48 : decode cX0_gainOf 48 = .ok (.iload_n 2, 1) := by decide +kernel
theorem dX0_gainOf_49 : decode cX0_gainOf 49 = .ok (.invokevirtual 69, 3) := by decide +kernel
theorem dX0_gainOf_52 : decode cX0_gainOf 52 = .ok (.iload 4, 2) := by decide +kernel
theorem dX0_gainOf_54 : decode cX0_gainOf 54 = .ok (.iand, 1) := by decide +kernel
theorem dX0_gainOf_55 : decode cX0_gainOf 55 = .ok (.invokestatic 73, 3) := by decide +kernel
theorem dX0_gainOf_58 : decode cX0_gainOf 58 = .ok (.iadd, 1) := by decide +kernel
theorem dX0_gainOf_59 : decode cX0_gainOf 59 = .ok (.ireturn, 1) := by decide +kernel
theorem dX0_wayToCup_0 : decode cX0_wayToCup 0 = .ok (.aload_n 0, 1) := by decide +kernel
theorem dX0_wayToCup_1 : decode cX0_wayToCup 1 = .ok (.getfield 55, 3) := by decide +kernel
theorem dX0_wayToCup_4 : decode cX0_wayToCup 4 = .ok (.iload_n 1, 1) := by decide +kernel
theorem dX0_wayToCup_5 : decode cX0_wayToCup 5 = .ok (.iaload, 1) := by decide +kernel
theorem dX0_wayToCup_6 : decode cX0_wayToCup 6 = .ok (.aload_n 0, 1) := by decide +kernel
theorem dX0_wayToCup_7 : decode cX0_wayToCup 7 = .ok (.getfield 59, 3) := by decide +kernel
theorem dX0_wayToCup_10 : decode cX0_wayToCup 10 = .ok (.iload_n 1, 1) := by decide +kernel
theorem dX0_wayToCup_11 : decode cX0_wayToCup 11 = .ok (.iaload, 1) := by decide +kernel
theorem dX0_wayToCup_12 : decode cX0_wayToCup 12 = .ok (.bipush 20, 2) := by decide +kernel
theorem dX0_wayToCup_14 : decode cX0_wayToCup 14 = .ok (.bipush 20, 2) := by decide +kernel
theorem dX0_wayToCup_16 : decode cX0_wayToCup 16 = .ok (.invokestatic 62, 3) := by decide +kernel
theorem dX0_wayToCup_19 : decode cX0_wayToCup 19 = .ok (.ireturn, 1) := by decide +kernel
theorem dX1_init_0 : decode cX1_init 0 = .ok (.aload_n 0, 1) := by decide +kernel
theorem dX1_init_1 : decode cX1_init 1 = .ok (.invokespecial 3, 3) := by decide +kernel
theorem dX1_init_4 : decode cX1_init 4 = .ok (.aload_n 0, 1) := by decide +kernel
theorem dX1_init_5 : decode cX1_init 5 = .ok (.bipush 16, 2) := by decide +kernel
theorem dX1_init_7 : decode cX1_init 7 = .ok (.newarray .int, 2) := by decide +kernel
theorem dX1_init_9 : decode cX1_init 9 = .ok (.putfield 9, 3) := by decide +kernel
theorem dX1_init_12 : decode cX1_init 12 = .ok (.aload_n 0, 1) := by decide +kernel
theorem dX1_init_13 : decode cX1_init 13 = .ok (.bipush 16, 2) := by decide +kernel
theorem dX1_init_15 : decode cX1_init 15 = .ok (.newarray .int, 2) := by decide +kernel
theorem dX1_init_17 : decode cX1_init 17 = .ok (.putfield 15, 3) := by decide +kernel
theorem dX1_init_20 : decode cX1_init 20 = .ok (.aload_n 0, 1) := by decide +kernel
theorem dX1_init_21 : decode cX1_init 21 = .ok (.bipush 16, 2) := by decide +kernel
theorem dX1_init_23 : decode cX1_init 23 = .ok (.newarray .int, 2) := by decide +kernel
theorem dX1_init_25 : decode cX1_init 25 = .ok (.putfield 18, 3) := by decide +kernel
theorem dX1_init_28 : decode cX1_init 28 = .ok (.aload_n 0, 1) := by decide +kernel
theorem dX1_init_29 : decode cX1_init 29 = .ok (.iconst 0, 1) := by decide +kernel
theorem dX1_init_30 : decode cX1_init 30 = .ok (.putfield 21, 3) := by decide +kernel
theorem dX1_init_33 : decode cX1_init 33 = .ok (.aload_n 0, 1) := by decide +kernel
theorem dX1_init_34 : decode cX1_init 34 = .ok (.iconst 0, 1) := by decide +kernel
theorem dX1_init_35 : decode cX1_init 35 = .ok (.putfield 25, 3) := by decide +kernel
theorem dX1_init_38 : decode cX1_init 38 = .ok (.aload_n 0, 1) := by decide +kernel
theorem dX1_init_39 : decode cX1_init 39 = .ok (.iconst 0, 1) := by decide +kernel
theorem dX1_init_40 : decode cX1_init 40 = .ok (.putfield 28, 3) := by decide +kernel
theorem dX1_init_43 : decode cX1_init 43 = .ok (.aload_n 0, 1) := by decide +kernel
theorem dX1_init_44 : decode cX1_init 44 = .ok (.invokevirtual 31, 3) := by decide +kernel
theorem dX1_init_47 : decode cX1_init 47 = .ok (.return_, 1) := by decide +kernel
theorem dX1_bringAllToBase_0 : decode cX1_bringAllToBase 0 = .ok (.iconst 0, 1) := by decide +kernel
theorem dX1_bringAllToBase_1 : decode cX1_bringAllToBase 1 = .ok (.istore_n 1, 1) := by decide +kernel
theorem dX1_bringAllToBase_2 : decode cX1_bringAllToBase 2 = .ok (.iload_n 1, 1) := by decide +kernel
theorem dX1_bringAllToBase_3 : decode cX1_bringAllToBase 3 = .ok (.bipush 16, 2) := by decide +kernel
theorem dX1_bringAllToBase_5 : decode cX1_bringAllToBase 5 = .ok (.if_icmp .ge 16, 3) := by decide +kernel
theorem dX1_bringAllToBase_8 : decode cX1_bringAllToBase 8 = .ok (.aload_n 0, 1) := by decide +kernel
theorem dX1_bringAllToBase_9 : decode cX1_bringAllToBase 9 = .ok (.iload_n 1, 1) := by decide +kernel
theorem dX1_bringAllToBase_10 : decode cX1_bringAllToBase 10 = .ok (.iconst (-1), 1) := by decide +kernel
theorem dX1_bringAllToBase_11 : decode cX1_bringAllToBase 11 = .ok (.iconst (-1), 1) := by decide +kernel
theorem dX1_bringAllToBase_12 : decode cX1_bringAllToBase 12 = .ok (.invokevirtual 34, 3) := by decide +kernel
theorem dX1_bringAllToBase_15 : decode cX1_bringAllToBase 15 = .ok (.iinc 1 1, 3) := by decide +kernel
theorem dX1_bringAllToBase_18 : decode cX1_bringAllToBase 18 = .ok (.goto (-16), 3) := by decide +kernel
theorem dX1_bringAllToBase_21 : decode cX1_bringAllToBase 21 = .ok (.return_, 1) := by decide +kernel
theorem dX1_copyFrom_0 : decode cX1_copyFrom 0 = .ok (.aload_n 1, 1) := by decide +kernel
theorem dX1_copyFrom_1 : decode cX1_copyFrom 1 = .ok (.getfield 9, 3) := by decide +kernel
theorem dX1_copyFrom_4 : decode cX1_copyFrom 4 = .ok (.iconst 0, 1) := by decide +kernel
theorem dX1_copyFrom_5 : decode cX1_copyFrom 5 = .ok (.aload_n 0, 1) := by decide +kernel
theorem dX1_copyFrom_6 : decode cX1_copyFrom 6 = .ok (.getfield 9, 3) := by decide +kernel
theorem dX1_copyFrom_9 : decode cX1_copyFrom 9 = .ok (.iconst 0, 1) := by decide +kernel
theorem dX1_copyFrom_10 : decode cX1_copyFrom 10 = .ok (.bipush 16, 2) := by decide +kernel
theorem dX1_copyFrom_12 : decode cX1_copyFrom 12 = .ok (.invokestatic 38, 3) := by decide +kernel
theorem dX1_copyFrom_15 : decode cX1_copyFrom 15 = .ok (.aload_n 1, 1) := by decide +kernel
theorem dX1_copyFrom_16 : decode cX1_copyFrom 16 = .ok (.getfield 15, 3) := by decide +kernel
theorem dX1_copyFrom_19 : decode cX1_copyFrom 19 = .ok (.iconst 0, 1) := by decide +kernel
theorem dX1_copyFrom_20 : decode cX1_copyFrom 20 = .ok (.aload_n 0, 1) := by decide +kernel
theorem dX1_copyFrom_21 : decode cX1_copyFrom 21 = .ok (.getfield 15, 3) := by decide +kernel
theorem dX1_copyFrom_24 : decode cX1_copyFrom 24 = .ok (.iconst 0, 1) := by decide +kernel
theorem dX1_copyFrom_25 : decode cX1_copyFrom 25 = .ok (.bipush 16, 2) := by decide +kernel
theorem dX1_copyFrom_27 : decode cX1_copyFrom 27 = .ok (.invokestatic 38, 3) := by decide +kernel
theorem dX1_copyFrom_30 : decode cX1_copyFrom 30 = .ok (.aload_n 1, 1) := by decide +kernel
theorem dX1_copyFrom_31 : decode cX1_copyFrom 31 = .ok (.getfield 18, 3) := by decide +kernel
theorem dX1_copyFrom_34 : decode cX1_copyFrom 34 = .ok (.iconst 0, 1) := by decide +kernel
theorem dX1_copyFrom_35 : decode cX1_copyFrom 35 = .ok (.aload_n 0, 1) := by decide +kernel
theorem dX1_copyFrom_36 : decode cX1_copyFrom 36 = .ok (.getfield 18, 3) := by decide +kernel
theorem dX1_copyFrom_39 : decode cX1_copyFrom 39 = .ok (.iconst 0, 1) := by decide +kernel
theorem dX1_copyFrom_40 : decode cX1_copyFrom 40 = .ok (.bipush 16, 2) := by decide +kernel
theorem dX1_copyFrom_42 : decode cX1_copyFrom 42 = .ok (.invokestatic 38, 3) := by decide +kernel
theorem dX1_copyFrom_45 : decode cX1_copyFrom 45 = .ok (.aload_n 0, 1) := by decide +kernel
theorem dX1_copyFrom_46 : decode cX1_copyFrom 46 = .ok (.aload_n 1, 1) := by decide +kernel
theorem dX1_copyFrom_47 : decode cX1_copyFrom 47 = .ok (.getfield 21, 3) := by decide +kernel
theorem dX1_copyFrom_50 : decode cX1_copyFrom 50 = .ok (.putfield 21, 3) := by decide +kernel
theorem dX1_copyFrom_53 : decode cX1_copyFrom 53 = .ok (.aload_n 0, 1) := by decide +kernel
theorem dX1_copyFrom_54 : decode cX1_copyFrom 54 = .ok (.aload_n 1, 1) := by decide +kernel
theorem dX1_copyFrom_55 : decode cX1_copyFrom 55 = .ok (.getfield 25, 3) := by decide +kernel
theorem dX1_copyFrom_58 : decode cX1_copyFrom 58 = .ok (.putfield 25, 3) := by decide +kernel
theorem dX1_copyFrom_61 : decode cX1_copyFrom 61 = .ok (.aload_n 0, 1) := by decide +kernel
theorem dX1_copyFrom_62 : decode cX1_copyFrom 62 = .ok (.aload_n 1, 1) := by decide +kernel
theorem dX1_copyFrom_63 : decode cX1_copyFrom 63 = .ok (.getfield 28, 3) := by decide +kernel
theorem dX1_copyFrom_66 : decode cX1_copyFrom 66 = .ok (.putfield 28, 3) := by decide +kernel
theorem dX1_copyFrom_69 : decode cX1_copyFrom 69 = .ok (.return_, 1) := by decide +kernel
theorem dX1_bring_0 : decode cX1_bring 0 = .ok (.aload_n 0, 1) := by decide +kernel
theorem dX1_bring_1 : decode cX1_bring 1 = .ok (.iload_n 1, 1) := by decide +kernel
theorem dX1_bring_2 : decode cX1_bring 2 = .ok (.invokevirtual 44, 3) := by decide +kernel
theorem dX1_bring_5 : decode cX1_bring 5 = .ok (.iload_n 2, 1) := by decide +kernel
theorem dX1_bring_6 : decode cX1_bring 6 = .ok (.iconst (-1), 1) := by decide +kernel
theorem dX1_bring_7 : decode cX1_bring 7 = .ok (.if_icmp .ne 32, 3) := by decide +kernel
theorem dX1_bring_10 : decode cX1_bring 10 = .ok (.aload_n 0, 1) := by decide +kernel
theorem dX1_bring_11 : decode cX1_bring 11 = .ok (.getfield 9, 3) := by decide +kernel
theorem dX1_bring_14 : decode cX1_bring 14 = .ok (.iload_n 1, 1) := by decide +kernel
theorem dX1_bring_15 : decode cX1_bring 15 = .ok (.getstatic 48, 3) := by decide +kernel
theorem dX1_bring_18 : decode cX1_bring 18 = .ok (.iload_n 1, 1) := by decide +kernel
theorem dX1_bring_19 : decode cX1_bring 19 = .ok (.invokestatic 51, 3) := by decide +kernel
theorem dX1_bring_22 : decode cX1_bring 22 = .ok (.iaload, 1) := by decide +kernel
theorem dX1_bring_23 : decode cX1_bring 23 = .ok (.iastore, 1) := by decide +kernel
theorem dX1_bring_24 : decode cX1_bring 24 = .ok (.aload_n 0, 1) := by decide +kernel
theorem dX1_bring_25 : decode cX1_bring 25 = .ok (.getfield 15, 3) := by decide +kernel
theorem dX1_bring_28 : decode cX1_bring 28 = .ok (.iload_n 1, 1) := by decide +kernel
theorem dX1_bring_29 : decode cX1_bring 29 = .ok (.getstatic 55, 3) := by decide +kernel
theorem dX1_bring_32 : decode cX1_bring 32 = .ok (.iload_n 1, 1) := by decide +kernel
theorem dX1_bring_33 : decode cX1_bring 33 = .ok (.invokestatic 51, 3) := by decide +kernel
theorem dX1_bring_36 : decode cX1_bring 36 = .ok (.iaload, 1) := by decide +kernel
theorem dX1_bring_37 : decode cX1_bring 37 = .ok (.iastore, 1) := by decide +kernel
theorem dX1_bring_38 : decode cX1_bring 38 = .ok (.return_, 1) := by decide +kernel
theorem dX1_bring_39 : decode cX1_bring 39 = .ok (.aload_n 0, 1) := by decide +kernel
theorem dX1_bring_40 : decode cX1_bring 40 = .ok (.getfield 9, 3) := by decide +kernel
theorem dX1_bring_43 : decode cX1_bring 43 = .ok (.iload_n 1, 1) := by decide +kernel
theorem dX1_bring_44 : decode cX1_bring 44 = .ok (.iload_n 2, 1) := by decide +kernel
theorem dX1_bring_45 : decode cX1_bring 45 = .ok (.iastore, 1) := by decide +kernel
theorem dX1_bring_46 : decode cX1_bring 46 = .ok (.aload_n 0, 1) := by decide +kernel
theorem dX1_bring_47 : decode cX1_bring 47 = .ok (.getfield 15, 3) := by decide +kernel
theorem dX1_bring_50 : decode cX1_bring 50 = .ok (.iload_n 1, 1) := by decide +kernel
theorem dX1_bring_51 : decode cX1_bring 51 = .ok (.iload_n 3, 1) := by decide +kernel
theorem dX1_bring_52 : decode cX1_bring 52 = .ok (.iastore, 1) := by decide +kernel
theorem dX1_bring_53 : decode cX1_bring 53 = .ok (.iload_n 2, 1) := by decide +kernel
theorem dX1_bring_54 : decode cX1_bring 54 = .ok (.bipush 41, 2) := by decide +kernel
theorem dX1_bring_56 : decode cX1_bring 56 = .ok (.if_icmp .ne 16, 3) := by decide +kernel
theorem dX1_bring_59 : decode cX1_bring 59 = .ok (.aload_n 0, 1) := by decide +kernel
theorem dX1_bring_60 : decode cX1_bring 60 = .ok (.dup, 1) := by decide +kernel
theorem dX1_bring_61 : decode cX1_bring 61 = .ok (.getfield 25, 3) := by decide +kernel
theorem dX1_bring_64 : decode cX1_bring 64 = .ok (.iconst 1, 1) := by decide +kernel
theorem dX1_bring_65 : decode cX1_bring 65 = .ok (.iload_n 1, 1) := by decide +kernel
theorem dX1_bring_66 : decode cX1_bring 66 = .ok (.ishl, 1) := by decide +kernel
theorem dX1_bring_67 : decode cX1_bring 67 = .ok (.ior, 1) := by decide +kernel
theorem dX1_bring_68 : decode cX1_bring 68 = .ok (.putfield 25, 3) := by decide +kernel
theorem dX1_bring_71 : decode cX1_bring 71 = .ok (.return_, 1) := by decide +kernel
theorem dX1_bring_72 : decode cX1_bring 72 = .ok (.iconst 0, 1) := by decide +kernel
theorem dX1_bring_73 : decode cX1_bring 73 = .ok (.istore 4, 2) := by decide +kernel
theorem dX1_bring_75 : decode cX1_bring 75 = .ok (.iload 4, 2) := by decide +kernel
theorem dX1_bring_77 : decode cX1_bring 77 = .ok (.bipush 16, 2) := by decide +kernel
theorem dX1_bring_79 : decode cX1_bring 79 = .ok (.if_icmp .ge 54, 3) := by decide +kernel
theorem dX1_bring_82 : decode cX1_bring 82 = .ok (.aload_n 0, 1) := by decide +kernel
theorem dX1_bring_83 : decode cX1_bring 83 = .ok (.iload 4, 2) := by decide +kernel
theorem dX1_bring_85 : decode cX1_bring 85 = .ok (.invokevirtual 58, 3) := by decide +kernel
theorem dX1_bring_88 : decode cX1_bring 88 = .ok (.ifCond .eq 39, 3) := by decide +kernel
theorem dX1_bring_91 : decode cX1_bring 91 = .ok (.aload_n 0, 1) := by decide +kernel
theorem dX1_bring_92 : decode cX1_bring 92 = .ok (.iload_n 1, 1) := by decide +kernel
theorem dX1_bring_93 : decode cX1_bring 93 = .ok (.iload 4, 2) := by decide +kernel
theorem dX1_bring_95 : decode cX1_bring 95 = .ok (.invokevirtual 62, 3) := by decide +kernel
theorem dX1_bring_98 : decode cX1_bring 98 = .ok (.ifCond .eq 29, 3) := by decide +kernel
theorem dX1_bring_101 : decode cX1_bring 101 = .ok (.aload_n 0, 1) := by decide +kernel
theorem dX1_bring_102 : decode cX1_bring 102 = .ok (.getfield 18, 3) := by decide +kernel
theorem dX1_bring_105 : decode cX1_bring 105 = .ok (.iload 4, 2) := by decide +kernel
theorem dX1_bring_107 : decode cX1_bring 107 = .ok (.dup2, 1) := by decide +kernel
theorem dX1_bring_108 : decode cX1_bring 108 = .ok (.iaload, 1) := by decide +kernel
theorem dX1_bring_109 : decode cX1_bring 109 = .ok (.iconst 1, 1) := by decide +kernel
theorem dX1_bring_110 : decode cX1_bring 110 = .ok (.iload_n 1, 1) := by decide +kernel
theorem dX1_bring_111 : decode cX1_bring 111 = .ok (.ishl, 1) := by decide +kernel
theorem dX1_bring_112 : decode cX1_bring 112 = .ok (.ior, 1) := by decide +kernel
theorem dX1_bring_113 : decode cX1_bring 113 = .ok (.iastore, 1) := by decide +kernel
theorem dX1_bring_114 : decode cX1_bring 114 = .ok (.aload_n 0, 1) := by decide +kernel
theorem dX1_bring_115 : decode cX1_bring 115 = .ok (.dup, 1) := by decide +kernel
theorem dX1_bring_116 : decode cX1_bring 116 = .ok (.getfield 28, 3) := by decide +kernel
theorem dX1_bring_119 : decode cX1_bring 119 = .ok (.iconst 1, 1) := by decide +kernel
theorem dX1_bring_120 : decode cX1_bring 120 = .ok (.iload 4, 2) := by decide +kernel
theorem dX1_bring_122 : decode cX1_bring 122 = .ok (.ishl, 1) := by decide +kernel
theorem dX1_bring_123 : decode cX1_bring 123 = .ok (.ior, 1) := by decide +kernel
theorem dX1_bring_124 : decode cX1_bring 124 = .ok (.putfield 28, 3) := by decide +kernel
theorem dX1_bring_127 : decode cX1_bring 127 = .ok (.iinc 4 1, 3) := by decide +kernel
theorem dX1_bring_130 : decode cX1_bring 130 = .ok (.goto (-55), 3) := by decide +kernel
theorem dX1_bring_133 : decode cX1_bring 133 = .ok (.aload_n 0, 1) := by decide +kernel
theorem dX1_bring_134 : decode cX1_bring 134 = .ok (.dup, 1) := by decide +kernel
theorem dX1_bring_135 : decode cX1_bring 135 = .ok (.getfield 21, 3) := by decide +kernel
theorem dX1_bring_138 : decode cX1_bring 138 = .ok (.iconst 1, 1) := by decide +kernel
theorem dX1_bring_139 : decode cX1_bring 139 = .ok (.iload_n 1, 1) := by decide +kernel
theorem dX1_bring_140 : decode cX1_bring 140 = .ok (.ishl, 1) := by decide +kernel
theorem dX1_bring_141 : decode cX1_bring 141 = .ok (.ior, 1) := by decide +kernel
theorem dX1_bring_142 : decode cX1_bring 142 = .ok (.putfield 21, 3) := by decide +kernel
theorem dX1_bring_145 : decode cX1_bring 145 = .ok (.return_, 1) := by decide +kernel
theorem dX1_lift_0 : decode cX1_lift 0 = .ok (.iconst 1, 1) := by decide +kernel
theorem dX1_lift_1 : decode cX1_lift 1 = .ok (.iload_n 1, 1) := by decide +kernel
theorem dX1_lift_2 : decode cX1_lift 2 = .ok (.ishl, 1) := by decide +kernel
theorem dX1_lift_3 : decode cX1_lift 3 = .ok (.iconst (-1), 1) := by decide +kernel
theorem dX1_lift_4 : decode cX1_lift 4 = .ok (.ixor, 1) := by decide +kernel
theorem dX1_lift_5 : decode cX1_lift 5 = .ok (.istore_n 2, 1) := by decide +kernel
theorem dX1_lift_6 : decode cX1_lift 6 = .ok (.aload_n 0, 1) := by decide +kernel
theorem dX1_lift_7 : decode cX1_lift 7 = .ok (.dup, 1) := by decide +kernel
theorem dX1_lift_8 : decode cX1_lift 8 = .ok (.getfield 25, 3) := by decide +kernel
theorem dX1_lift_11 : decode cX1_lift 11 = .ok (.iload_n 2, 1) := by decide +kernel
theorem dX1_lift_12 : decode cX1_lift 12 = .ok (.iand, 1) := by decide +kernel
theorem dX1_lift_13 : decode cX1_lift 13 = .ok (.putfield 25, 3) := by decide +kernel
theorem dX1_lift_16 : decode cX1_lift 16 = .ok (.aload_n 0, 1) := by decide +kernel
theorem dX1_lift_17 : decode cX1_lift 17 = .ok (.iload_n 1, 1) := by decide +kernel
theorem dX1_lift_18 : decode cX1_lift 18 = .ok (.invokevirtual 58, 3) := by decide +kernel
theorem dX1_lift_21 : decode cX1_lift 21 = .ok (.ifCond .ne 4, 3) := by decide +kernel
theorem dX1_lift_24 : decode cX1_lift 24 = .ok (.return_, 1) := by decide +kernel
theorem dX1_lift_25 : decode cX1_lift 25 = .ok (.aload_n 0, 1) := by decide +kernel
theorem dX1_lift_26 : decode cX1_lift 26 = .ok (.dup, 1) := by decide +kernel
theorem dX1_lift_27 : decode cX1_lift 27 = .ok (.getfield 21, 3) := by decide +kernel
theorem dX1_lift_30 : decode cX1_lift 30 = .ok (.iload_n 2, 1) := by decide +kernel
theorem dX1_lift_31 : decode cX1_lift 31 = .ok (.iand, 1) := by decide +kernel
theorem dX1_lift_32 : decode cX1_lift 32 = .ok (.putfield 21, 3) := by decide +kernel
theorem dX1_lift_35 : decode cX1_lift 35 = .ok (.aload_n 0, 1) := by decide +kernel
theorem dX1_lift_36 : decode cX1_lift 36 = .ok (.getfield 18, 3) := by decide +kernel
theorem dX1_lift_39 : decode cX1_lift 39 = .ok (.iload_n 1, 1) := by decide +kernel
theorem dX1_lift_40 : decode cX1_lift 40 = .ok (.iconst 0, 1) := by decide +kernel
theorem dX1_lift_41 : decode cX1_lift 41 = .ok (.iastore, 1) := by decide +kernel
theorem dX1_lift_42 : decode cX1_lift 42 = .ok (.aload_n 0, 1) := by decide +kernel
theorem dX1_lift_43 : decode cX1_lift 43 = .ok (.iconst 0, 1) := by decide +kernel
theorem dX1_lift_44 : decode cX1_lift 44 = .ok (.putfield 28, 3) := by decide +kernel
theorem dX1_lift_47 : decode cX1_lift 47 = .ok (.iconst 0, 1) := by decide +kernel
theorem dX1_lift_48 : decode cX1_lift 48 = .ok (.istore_n 3, 1) := by decide +kernel
theorem dX1_lift_49 : decode cX1_lift 49 = .ok (.iload_n 3, 1) := by decide +kernel
theorem dX1_lift_50 : decode cX1_lift 50 = .ok (.bipush 16, 2) := by decide +kernel
theorem dX1_lift_52 : decode cX1_lift 52 = .ok (.if_icmp .ge 40, 3) := by decide +kernel
theorem dX1_lift_55 : decode cX1_lift 55 = .ok (.aload_n 0, 1) := by decide +kernel
theorem dX1_lift_56 : decode cX1_lift 56 = .ok (.getfield 18, 3) := by decide +kernel
theorem dX1_lift_59 : decode cX1_lift 59 = .ok (.iload_n 3, 1) := by decide +kernel
theorem dX1_lift_60 : decode cX1_lift 60 = .ok (.dup2, 1) := by decide +kernel
theorem dX1_lift_61 : decode cX1_lift 61 = .ok (.iaload, 1) := by decide +kernel
theorem dX1_lift_62 : decode cX1_lift 62 = .ok (.iload_n 2, 1) := by decide +kernel
theorem dX1_lift_63 : decode cX1_lift 63 = .ok (.iand, 1) := by decide +kernel
theorem dX1_lift_64 : decode cX1_lift 64 = .ok (.iastore, 1) := by decide +kernel
theorem dX1_lift_65 : decode cX1_lift 65 = .ok (.aload_n 0, 1) := by decide +kernel
theorem dX1_lift_66 : decode cX1_lift 66 = .ok (.getfield 18, 3) := by decide +kernel
theorem dX1_lift_69 : decode cX1_lift 69 = .ok (.iload_n 3, 1) := by decide +kernel
theorem dX1_lift_70 : decode cX1_lift 70 = .ok (.iaload, 1) := by decide +kernel
theorem dX1_lift_71 : decode cX1_lift 71 = .ok (.ifCond .eq 15, 3) := by decide +kernel
theorem dX1_lift_74 : decode cX1_lift 74 = .ok (.aload_n 0, 1) := by decide +kernel
theorem dX1_lift_75 : decode cX1_lift 75 = .ok (.dup, 1) := by decide +kernel
theorem dX1_lift_76 : decode cX1_lift 76 = .ok (.getfield 28, 3) := by decide +kernel
theorem dX1_lift_79 : decode cX1_lift 79 = .ok (.iconst 1, 1) := by decide +kernel
theorem dX1_lift_80 : decode cX1_lift 80 = .ok (.iload_n 3, 1) := by decide +kernel
theorem dX1_lift_81 : decode cX1_lift 81 = .ok (.ishl, 1) := by decide +kernel
theorem dX1_lift_82 : decode cX1_lift 82 = .ok (.ior, 1) := by decide +kernel
theorem dX1_lift_83 : decode cX1_lift 83 = .ok (.putfield 28, 3) := by decide +kernel
theorem dX1_lift_86 : decode cX1_lift 86 = .ok (.iinc 3 1, 3) := by decide +kernel
theorem dX1_lift_89 : decode cX1_lift 89 = .ok (.goto (-40), 3) := by decide +kernel
theorem dX1_lift_92 : decode cX1_lift 92 = .ok (.return_, 1) := by decide +kernel
theorem dX1_isOverlap_0 : decode cX1_isOverlap 0 = .ok (.aload_n 0, 1) := by decide +kernel
theorem dX1_isOverlap_1 : decode cX1_isOverlap 1 = .ok (.getfield 9, 3) := by decide +kernel
theorem dX1_isOverlap_4 : decode cX1_isOverlap 4 = .ok (.iload_n 1, 1) := by decide +kernel
theorem dX1_isOverlap_5 : decode cX1_isOverlap 5 = .ok (.iaload, 1) := by decide +kernel
theorem dX1_isOverlap_6 : decode cX1_isOverlap 6 = .ok (.aload_n 0, 1) := by decide +kernel
theorem dX1_isOverlap_7 : decode cX1_isOverlap 7 = .ok (.getfield 9, 3) := by decide +kernel
theorem dX1_isOverlap_10 : decode cX1_isOverlap 10 = .ok (.iload_n 2, 1) := by decide +kernel
theorem dX1_isOverlap_11 : decode cX1_isOverlap 11 = .ok (.iaload, 1) := by decide +kernel
theorem dX1_isOverlap_12 : decode cX1_isOverlap 12 = .ok (.isub, 1) := by decide +kernel
theorem dX1_isOverlap_13 : decode cX1_isOverlap 13 = .ok (.istore_n 3, 1) := by decide +kernel
theorem dX1_isOverlap_14 : decode cX1_isOverlap 14 = .ok (.aload_n 0, 1) := by decide +kernel
theorem dX1_isOverlap_15 : decode cX1_isOverlap 15 = .ok (.getfield 15, 3) := by decide +kernel
theorem dX1_isOverlap_18 : decode cX1_isOverlap 18 = .ok (.iload_n 1, 1) := by decide +kernel
theorem dX1_isOverlap_19 : decode cX1_isOverlap 19 = .ok (.iaload, 1) := by decide +kernel
theorem dX1_isOverlap_20 : decode cX1_isOverlap 20 = .ok (.aload_n 0, 1) := by decide +kernel
theorem dX1_isOverlap_21 : decode cX1_isOverlap 21 = .ok (.getfield 15, 3) := by decide +kernel
theorem dX1_isOverlap_24 : decode cX1_isOverlap 24 = .ok (.iload_n 2, 1) := by decide +kernel
theorem dX1_isOverlap_25 : decode cX1_isOverlap 25 = .ok (.iaload, 1) := by decide +kernel
theorem dX1_isOverlap_26 : decode cX1_isOverlap 26 = .ok (.isub, 1) := by decide +kernel
theorem dX1_isOverlap_27 : decode cX1_isOverlap 27 = .ok (.istore 4, 2) := by decide +kernel
theorem dX1_isOverlap_29 : decode cX1_isOverlap 29 = .ok (.iload_n 1, 1) := by decide +kernel
theorem dX1_isOverlap_30 : decode cX1_isOverlap 30 = .ok (.invokestatic 66, 3) := by decide +kernel
theorem dX1_isOverlap_33 : decode cX1_isOverlap 33 = .ok (.iload_n 2, 1) := by decide +kernel
theorem dX1_isOverlap_34 : decode cX1_isOverlap 34 = .ok (.invokestatic 66, 3) := by decide +kernel
theorem dX1_isOverlap_37 : decode cX1_isOverlap 37 = .ok (.iadd, 1) := by decide +kernel
theorem dX1_isOverlap_38 : decode cX1_isOverlap 38 = .ok (.istore 5, 2) := by decide +kernel
theorem dX1_isOverlap_40 : decode cX1_isOverlap 40 = .ok (.iload_n 3, 1) := by decide +kernel
theorem dX1_isOverlap_41 : decode cX1_isOverlap 41 = .ok (.iload_n 3, 1) := by decide +kernel
theorem dX1_isOverlap_42 : decode cX1_isOverlap 42 = .ok (.imul, 1) := by decide +kernel
theorem dX1_isOverlap_43 : decode cX1_isOverlap 43 = .ok (.iload 4, 2) := by decide +kernel
theorem dX1_isOverlap_45 : decode cX1_isOverlap 45 = .ok (.iload 4, 2) := by decide +kernel
theorem dX1_isOverlap_47 : decode cX1_isOverlap 47 = .ok (.imul, 1) := by decide +kernel
theorem dX1_isOverlap_48 : decode cX1_isOverlap 48 = .ok (.iadd, 1) := by decide +kernel
theorem dX1_isOverlap_49 : decode cX1_isOverlap 49 = .ok (.iload 5, 2) := by decide +kernel
theorem dX1_isOverlap_51 : decode cX1_isOverlap 51 = .ok (.iload 5, 2) := by decide +kernel
theorem dX1_isOverlap_53 : decode cX1_isOverlap 53 = .ok (.imul, 1) := by decide +kernel
theorem dX1_isOverlap_54 : decode cX1_isOverlap 54 = .ok (.if_icmp .ge 7, 3) := by decide +kernel
theorem dX1_isOverlap_57 : decode cX1_isOverlap 57 = .ok (.iconst 1, 1) := by decide +kernel
theorem dX1_isOverlap_58 : decode cX1_isOverlap 58 = .ok (.goto 4, 3) := by decide +kernel
theorem dX1_isOverlap_61 : decode cX1_isOverlap 61 = .ok (.iconst 0, 1) := by decide +kernel
theorem dX1_isOverlap_62 : decode cX1_isOverlap 62 = .ok (.ireturn, 1) := by decide +kernel
theorem dX1_doesLie_0 : decode cX1_doesLie 0 = .ok (.aload_n 0, 1) := by decide +kernel
theorem dX1_doesLie_1 : decode cX1_doesLie 1 = .ok (.getfield 21, 3) := by decide +kernel
theorem dX1_doesLie_4 : decode cX1_doesLie 4 = .ok (.iconst 1, 1) := by decide +kernel
theorem dX1_doesLie_5 : decode cX1_doesLie 5 = .ok (.iload_n 1, 1) := by decide +kernel
theorem dX1_doesLie_6 : decode cX1_doesLie 6 = .ok (.ishl, 1) := by decide +kernel
theorem dX1_doesLie_7 : decode cX1_doesLie 7 = .ok (.iand, 1) := by decide +kernel
theorem dX1_doesLie_8 : decode cX1_doesLie 8 = .ok (.ifCond .eq 7, 3) := by decide +kernel
theorem dX1_doesLie_11 : decode cX1_doesLie 11 = .ok (.iconst 1, 1) := by decide +kernel
theorem dX1_doesLie_12 : decode cX1_doesLie 12 = .ok (.goto 4, 3) := by decide +kernel
theorem dX1_doesLie_15 : decode cX1_doesLie 15 = .ok (.iconst 0, 1) := by decide +kernel
theorem dX1_doesLie_16 : decode cX1_doesLie 16 = .ok (.ireturn, 1) := by decide +kernel
theorem dX1_isInCup_0 : decode cX1_isInCup 0 = .ok (.aload_n 0, 1) := by decide +kernel
theorem dX1_isInCup_1 : decode cX1_isInCup 1 = .ok (.getfield 25, 3) := by decide +kernel
theorem dX1_isInCup_4 : decode cX1_isInCup 4 = .ok (.iconst 1, 1) := by decide +kernel
theorem dX1_isInCup_5 : decode cX1_isInCup 5 = .ok (.iload_n 1, 1) := by decide +kernel
theorem dX1_isInCup_6 : decode cX1_isInCup 6 = .ok (.ishl, 1) := by decide +kernel
theorem dX1_isInCup_7 : decode cX1_isInCup 7 = .ok (.iand, 1) := by decide +kernel
theorem dX1_isInCup_8 : decode cX1_isInCup 8 = .ok (.ifCond .eq 7, 3) := by decide +kernel
theorem dX1_isInCup_11 : decode cX1_isInCup 11 = .ok (.iconst 1, 1) := by decide +kernel
theorem dX1_isInCup_12 : decode cX1_isInCup 12 = .ok (.goto 4, 3) := by decide +kernel
theorem dX1_isInCup_15 : decode cX1_isInCup 15 = .ok (.iconst 0, 1) := by decide +kernel
theorem dX1_isInCup_16 : decode cX1_isInCup 16 = .ok (.ireturn, 1) := by decide +kernel
theorem dX1_isAtBase_0 : decode cX1_isAtBase 0 = .ok (.aload_n 0, 1) := by decide +kernel
theorem dX1_isAtBase_1 : decode cX1_isAtBase 1 = .ok (.iload_n 1, 1) := by decide +kernel
theorem dX1_isAtBase_2 : decode cX1_isAtBase 2 = .ok (.invokevirtual 58, 3) := by decide +kernel
theorem dX1_isAtBase_5 : decode cX1_isAtBase 5 = .ok (.ifCond .ne 15, 3) := by decide +kernel
theorem dX1_isAtBase_8 : decode cX1_isAtBase 8 = .ok (.aload_n 0, 1) := by decide +kernel
theorem dX1_isAtBase_9 : decode cX1_isAtBase 9 = .ok (.iload_n 1, 1) := by decide +kernel
theorem dX1_isAtBase_10 : decode cX1_isAtBase 10 = .ok (.invokevirtual 69, 3) := by decide +kernel
theorem dX1_isAtBase_13 : decode cX1_isAtBase 13 = .ok (.ifCond .ne 7, 3) := by decide +kernel
theorem dX1_isAtBase_16 : decode cX1_isAtBase 16 = .ok (.iconst 1, 1) := by decide +kernel
theorem dX1_isAtBase_17 : decode cX1_isAtBase 17 = .ok (.goto 4, 3) := by decide +kernel
theorem dX1_isAtBase_20 : decode cX1_isAtBase 20 = .ok (.iconst 0, 1) := by decide +kernel
theorem dX1_isAtBase_21 : decode cX1_isAtBase 21 = .ok (.ireturn, 1) := by decide +kernel
theorem dX1_isFree_0 : decode cX1_isFree 0 = .ok (.aload_n 0, 1) := by decide +kernel
theorem dX1_isFree_1 : decode cX1_isFree 1 = .ok (.getfield 25, 3) := by decide +kernel
theorem dX1_isFree_4 : decode cX1_isFree 4 = .ok (.aload_n 0, 1) := by decide +kernel
theorem dX1_isFree_5 : decode cX1_isFree 5 = .ok (.getfield 28, 3) := by decide +kernel
theorem dX1_isFree_8 : decode cX1_isFree 8 = .ok (.ior, 1) := by decide +kernel
theorem dX1_isFree_9 : decode cX1_isFree 9 = .ok (.iconst 1, 1) := by decide +kernel
theorem dX1_isFree_10 : decode cX1_isFree 10 = .ok (.iload_n 1, 1) := by decide +kernel
theorem dX1_isFree_11 : decode cX1_isFree 11 = .ok (.ishl, 1) := by decide +kernel
theorem dX1_isFree_12 : decode cX1_isFree 12 = .ok (.iand, 1) := by decide +kernel
theorem dX1_isFree_13 : decode cX1_isFree 13 = .ok (.ifCond .ne 7, 3) := by decide +kernel
theorem dX1_isFree_16 : decode cX1_isFree 16 = .ok (.iconst 1, 1) := by decide +kernel
theorem dX1_isFree_17 : decode cX1_isFree 17 = .ok (.goto 4, 3) := by decide +kernel
theorem dX1_isFree_20 : decode cX1_isFree 20 = .ok (.iconst 0, 1) := by decide +kernel
theorem dX1_isFree_21 : decode cX1_isFree 21 = .ok (.ireturn, 1) := by decide +kernel
theorem dX1_coveredBy_0 : decode cX1_coveredBy 0 = .ok (.iconst 0, 1) := by decide +kernel
theorem dX1_coveredBy_1 : decode cX1_coveredBy 1 = .ok (.istore_n 2, 1) := by decide +kernel
theorem dX1_coveredBy_2 : decode cX1_coveredBy 2 = .ok (.iconst 0, 1) := by decide +kernel
theorem dX1_coveredBy_3 : decode cX1_coveredBy 3 = .ok (.istore_n 3, 1) := by decide +kernel
theorem dX1_coveredBy_4 : decode cX1_coveredBy 4 = .ok (.iload_n 3, 1) := by decide +kernel
theorem dX1_coveredBy_5 : decode cX1_coveredBy 5 = .ok (.bipush 16, 2) := by decide +kernel
theorem dX1_coveredBy_7 : decode cX1_coveredBy 7 = .ok (.if_icmp .ge 28, 3) := by decide +kernel
theorem dX1_coveredBy_10 : decode cX1_coveredBy 10 = .ok (.aload_n 0, 1) := by decide +kernel
theorem dX1_coveredBy_11 : decode cX1_coveredBy 11 = .ok (.getfield 18, 3) := by decide +kernel
theorem dX1_coveredBy_14 : decode cX1_coveredBy 14 = .ok (.iload_n 3, 1) := by decide +kernel
theorem dX1_coveredBy_15 : decode cX1_coveredBy 15 = .ok (.iaload, 1) := by decide +kernel
theorem dX1_coveredBy_16 : decode cX1_coveredBy 16 = .ok (.iconst 1, 1) := by decide +kernel
theorem dX1_coveredBy_17 : decode cX1_coveredBy 17 = .ok (.iload_n 1, 1) := by decide +kernel
theorem dX1_coveredBy_18 : decode cX1_coveredBy 18 = .ok (.ishl, 1) := by decide +kernel
theorem dX1_coveredBy_19 : decode cX1_coveredBy 19 = .ok (.iand, 1) := by decide +kernel
theorem dX1_coveredBy_20 : decode cX1_coveredBy 20 = .ok (.ifCond .eq 9, 3) := by decide +kernel
theorem dX1_coveredBy_23 : decode cX1_coveredBy 23 = .ok (.iload_n 2, 1) := by decide +kernel
theorem dX1_coveredBy_24 : decode cX1_coveredBy 24 = .ok (.iconst 1, 1) := by decide +kernel
theorem dX1_coveredBy_25 : decode cX1_coveredBy 25 = .ok (.iload_n 3, 1) := by decide +kernel
theorem dX1_coveredBy_26 : decode cX1_coveredBy 26 = .ok (.ishl, 1) := by decide +kernel
theorem dX1_coveredBy_27 : decode cX1_coveredBy 27 = .ok (.ior, 1) := by decide +kernel
theorem dX1_coveredBy_28 : decode cX1_coveredBy 28 = .ok (.istore_n 2, 1) := by decide +kernel
theorem dX1_coveredBy_29 : decode cX1_coveredBy 29 = .ok (.iinc 3 1, 3) := by decide +kernel
theorem dX1_coveredBy_32 : decode cX1_coveredBy 32 = .ok (.goto (-28), 3) := by decide +kernel
theorem dX1_coveredBy_35 : decode cX1_coveredBy 35 = .ok (.iload_n 2, 1) := by decide +kernel
theorem dX1_coveredBy_36 : decode cX1_coveredBy 36 = .ok (.ireturn, 1) := by decide +kernel
theorem dX1_pileOf_0 : decode cX1_pileOf 0 = .ok (.aload_n 0, 1) := by decide +kernel
theorem dX1_pileOf_1 : decode cX1_pileOf 1 = .ok (.iload_n 1, 1) := by decide +kernel
theorem dX1_pileOf_2 : decode cX1_pileOf 2 = .ok (.invokevirtual 58, 3) := by decide +kernel
theorem dX1_pileOf_5 : decode cX1_pileOf 5 = .ok (.ifCond .ne 5, 3) := by decide +kernel
theorem dX1_pileOf_8 : decode cX1_pileOf 8 = .ok (.iconst 0, 1) := by decide +kernel
theorem dX1_pileOf_9 : decode cX1_pileOf 9 = .ok (.ireturn, 1) := by decide +kernel
theorem dX1_pileOf_10 : decode cX1_pileOf 10 = .ok (.iconst 1, 1) := by decide +kernel
theorem dX1_pileOf_11 : decode cX1_pileOf 11 = .ok (.iload_n 1, 1) := by decide +kernel
theorem dX1_pileOf_12 : decode cX1_pileOf 12 = .ok (.ishl, 1) := by decide +kernel
theorem dX1_pileOf_13 : decode cX1_pileOf 13 = .ok (.istore_n 2, 1) := by decide +kernel
theorem dX1_pileOf_14 : decode cX1_pileOf 14 = .ok (.iconst 0, 1) := by decide +kernel
theorem dX1_pileOf_15 : decode cX1_pileOf 15 = .ok (.istore_n 3, 1) := by decide +kernel
theorem dX1_pileOf_16 : decode cX1_pileOf 16 = .ok (.iload_n 3, 1) := by decide +kernel
theorem dX1_pileOf_17 : decode cX1_pileOf 17 = .ok (.bipush 16, 2) := by decide +kernel
theorem dX1_pileOf_19 : decode cX1_pileOf 19 = .ok (.if_icmp .ge 15, 3) := by decide +kernel
theorem dX1_pileOf_22 : decode cX1_pileOf 22 = .ok (.aload_n 0, 1) := by decide +kernel
theorem dX1_pileOf_23 : decode cX1_pileOf 23 = .ok (.iload_n 2, 1) := by decide +kernel
theorem dX1_pileOf_24 : decode cX1_pileOf 24 = .ok (.invokevirtual 72, 3) := by decide +kernel
theorem dX1_pileOf_27 : decode cX1_pileOf 27 = .ok (.istore_n 2, 1) := by decide +kernel
theorem dX1_pileOf_28 : decode cX1_pileOf 28 = .ok (.iinc 3 1, 3) := by decide +kernel
theorem dX1_pileOf_31 : decode cX1_pileOf 31 = .ok (.goto (-15), 3) := by decide +kernel
theorem dX1_pileOf_34 : decode cX1_pileOf 34 = .ok (.iload_n 2, 1) := by decide +kernel
theorem dX1_pileOf_35 : decode cX1_pileOf 35 = .ok (.ireturn, 1) := by decide +kernel
theorem dX1_withNeighbours_0 : decode cX1_withNeighbours 0 = .ok (.iload_n 1, 1) := by decide +kernel
theorem dX1_withNeighbours_1 : decode cX1_withNeighbours 1 = .ok (.istore_n 2, 1) := by decide +kernel
theorem dX1_withNeighbours_2 : decode cX1_withNeighbours 2 = .ok (.iconst 0, 1) := by decide +kernel
theorem dX1_withNeighbours_3 : decode cX1_withNeighbours 3 = .ok (.istore_n 3, 1) := by decide +kernel
theorem dX1_withNeighbours_4 : decode cX1_withNeighbours 4 = .ok (.iload_n 3, 1) := by decide +kernel
theorem dX1_withNeighbours_5 : decode cX1_withNeighbours 5 = .ok (.bipush 16, 2) := by decide +kernel
theorem dX1_withNeighbours_7 : decode cX1_withNeighbours 7 = .ok (.if_icmp .ge 46, 3) := by decide +kernel
theorem dX1_withNeighbours_10 : decode cX1_withNeighbours 10 = .ok (.iload_n 2, 1) := by decide +kernel
theorem dX1_withNeighbours_11 : decode cX1_withNeighbours 11 = .ok (.iconst 1, 1) := by decide +kernel
theorem dX1_withNeighbours_12 : decode cX1_withNeighbours 12 = .ok (.iload_n 3, 1) := by decide +kernel
theorem dX1_withNeighbours_13 : decode cX1_withNeighbours 13 = .ok (.ishl, 1) := by decide +kernel
theorem dX1_withNeighbours_14 : decode cX1_withNeighbours 14 = .ok (.iand, 1) := by decide +kernel
theorem dX1_withNeighbours_15 : decode cX1_withNeighbours 15 = .ok (.ifCond .eq 15, 3) := by decide +kernel
theorem dX1_withNeighbours_18 : decode cX1_withNeighbours 18 = .ok (.iload_n 2, 1) := by decide +kernel
theorem dX1_withNeighbours_19 : decode cX1_withNeighbours 19 = .ok (.aload_n 0, 1) := by decide +kernel
theorem dX1_withNeighbours_20 : decode cX1_withNeighbours 20 = .ok (.getfield 18, 3) := by decide +kernel
theorem dX1_withNeighbours_23 : decode cX1_withNeighbours 23 = .ok (.iload_n 3, 1) := by decide +kernel
theorem dX1_withNeighbours_24 : decode cX1_withNeighbours 24 = .ok (.iaload, 1) := by decide +kernel
theorem dX1_withNeighbours_25 : decode cX1_withNeighbours 25 = .ok (.ior, 1) := by decide +kernel
theorem dX1_withNeighbours_26 : decode cX1_withNeighbours 26 = .ok (.istore_n 2, 1) := by decide +kernel
theorem dX1_withNeighbours_27 : decode cX1_withNeighbours 27 = .ok (.goto 20, 3) := by decide +kernel
theorem dX1_withNeighbours_30 : decode cX1_withNeighbours 30 = .ok (.iload_n 2, 1) := by decide +kernel
theorem dX1_withNeighbours_31 : decode cX1_withNeighbours 31 = .ok (.aload_n 0, 1) := by decide +kernel
theorem dX1_withNeighbours_32 : decode cX1_withNeighbours 32 = .ok (.getfield 18, 3) := by decide +kernel
theorem dX1_withNeighbours_35 : decode cX1_withNeighbours 35 = .ok (.iload_n 3, 1) := by decide +kernel
theorem dX1_withNeighbours_36 : decode cX1_withNeighbours 36 = .ok (.iaload, 1) := by decide +kernel
theorem dX1_withNeighbours_37 : decode cX1_withNeighbours 37 = .ok (.iand, 1) := by decide +kernel
theorem dX1_withNeighbours_38 : decode cX1_withNeighbours 38 = .ok (.ifCond .eq 9, 3) := by decide +kernel
theorem dX1_withNeighbours_41 : decode cX1_withNeighbours 41 = .ok (.iload_n 2, 1) := by decide +kernel
theorem dX1_withNeighbours_42 : decode cX1_withNeighbours 42 = .ok (.iconst 1, 1) := by decide +kernel
theorem dX1_withNeighbours_43 : decode cX1_withNeighbours 43 = .ok (.iload_n 3, 1) := by decide +kernel
theorem dX1_withNeighbours_44 : decode cX1_withNeighbours 44 = .ok (.ishl, 1) := by decide +kernel
theorem dX1_withNeighbours_45 : decode cX1_withNeighbours 45 = .ok (.ior, 1) := by decide +kernel
theorem dX1_withNeighbours_46 : decode cX1_withNeighbours 46 = .ok (.istore_n 2, 1) := by decide +kernel
theorem dX1_withNeighbours_47 : decode cX1_withNeighbours 47 = .ok (.iinc 3 1, 3) := by decide +kernel
theorem dX1_withNeighbours_50 : decode cX1_withNeighbours 50 = .ok (.goto (-46), 3) := by decide +kernel
theorem dX1_withNeighbours_53 : decode cX1_withNeighbours 53 = .ok (.iload_n 2, 1) := by decide +kernel
theorem dX1_withNeighbours_54 : decode cX1_withNeighbours 54 = .ok (.ireturn, 1) := by decide +kernel
theorem dX1_freeOf_0 : decode cX1_freeOf 0 = .ok (.sipush 4369, 3) := by decide +kernel
theorem dX1_freeOf_3 : decode cX1_freeOf 3 = .ok (.iload_n 1, 1) := by decide +kernel
theorem dX1_freeOf_4 : decode cX1_freeOf 4 = .ok (.ishl, 1) := by decide +kernel
theorem dX1_freeOf_5 : decode cX1_freeOf 5 = .ok (.aload_n 0, 1) := by decide +kernel
theorem dX1_freeOf_6 : decode cX1_freeOf 6 = .ok (.getfield 25, 3) := by decide +kernel
theorem dX1_freeOf_9 : decode cX1_freeOf 9 = .ok (.aload_n 0, 1) := by decide +kernel
theorem dX1_freeOf_10 : decode cX1_freeOf 10 = .ok (.getfield 28, 3) := by decide +kernel
theorem dX1_freeOf_13 : decode cX1_freeOf 13 = .ok (.ior, 1) := by decide +kernel
theorem dX1_freeOf_14 : decode cX1_freeOf 14 = .ok (.iconst (-1), 1) := by decide +kernel
theorem dX1_freeOf_15 : decode cX1_freeOf 15 = .ok (.ixor, 1) := by decide +kernel
theorem dX1_freeOf_16 : decode cX1_freeOf 16 = .ok (.iand, 1) := by decide +kernel
theorem dX1_freeOf_17 : decode cX1_freeOf 17 = .ok (.ireturn, 1) := by decide +kernel
theorem dX1_isAllIn_0 : decode cX1_isAllIn 0 = .ok (.sipush 4369, 3) := by decide +kernel
theorem dX1_isAllIn_3 : decode cX1_isAllIn 3 = .ok (.iload_n 1, 1) := by decide +kernel
theorem dX1_isAllIn_4 : decode cX1_isAllIn 4 = .ok (.ishl, 1) := by decide +kernel
theorem dX1_isAllIn_5 : decode cX1_isAllIn 5 = .ok (.istore_n 2, 1) := by decide +kernel
theorem dX1_isAllIn_6 : decode cX1_isAllIn 6 = .ok (.aload_n 0, 1) := by decide +kernel
theorem dX1_isAllIn_7 : decode cX1_isAllIn 7 = .ok (.getfield 25, 3) := by decide +kernel
theorem dX1_isAllIn_10 : decode cX1_isAllIn 10 = .ok (.iload_n 2, 1) := by decide +kernel
theorem dX1_isAllIn_11 : decode cX1_isAllIn 11 = .ok (.iand, 1) := by decide +kernel
theorem dX1_isAllIn_12 : decode cX1_isAllIn 12 = .ok (.iload_n 2, 1) := by decide +kernel
theorem dX1_isAllIn_13 : decode cX1_isAllIn 13 = .ok (.if_icmp .ne 7, 3) := by decide +kernel
theorem dX1_isAllIn_16 : decode cX1_isAllIn 16 = .ok (.iconst 1, 1) := by decide +kernel
theorem dX1_isAllIn_17 : decode cX1_isAllIn 17 = .ok (.goto 4, 3) := by decide +kernel
theorem dX1_isAllIn_20 : decode cX1_isAllIn 20 = .ok (.iconst 0, 1) := by decide +kernel
theorem dX1_isAllIn_21 : decode cX1_isAllIn 21 = .ok (.ireturn, 1) := by decide +kernel
theorem dX1_isAnyoneAllIn_0 : decode cX1_isAnyoneAllIn 0 = .ok (.aload_n 0, 1) := by decide +kernel
theorem dX1_isAnyoneAllIn_1 : decode cX1_isAnyoneAllIn 1 = .ok (.getfield 25, 3) := by decide +kernel
theorem dX1_isAnyoneAllIn_4 : decode cX1_isAnyoneAllIn 4 = .ok (.aload_n 0, 1) := by decide +kernel
theorem dX1_isAnyoneAllIn_5 : decode cX1_isAnyoneAllIn 5 = .ok (.getfield 25, 3) := by decide +kernel
theorem dX1_isAnyoneAllIn_8 : decode cX1_isAnyoneAllIn 8 = .ok (.iconst 4, 1) := by decide +kernel
theorem dX1_isAnyoneAllIn_9 : decode cX1_isAnyoneAllIn 9 = .ok (.ishr, 1) := by decide +kernel
theorem dX1_isAnyoneAllIn_10 : decode cX1_isAnyoneAllIn 10 = .ok (.iand, 1) := by decide +kernel
theorem dX1_isAnyoneAllIn_11 : decode cX1_isAnyoneAllIn 11 = .ok (.aload_n 0, 1) := by decide +kernel
theorem dX1_isAnyoneAllIn_12 : decode cX1_isAnyoneAllIn 12 = .ok (.getfield 25, 3) := by decide +kernel
theorem dX1_isAnyoneAllIn_15 : decode cX1_isAnyoneAllIn 15 = .ok (.bipush 8, 2) := by decide +kernel
theorem dX1_isAnyoneAllIn_17 : decode cX1_isAnyoneAllIn 17 = .ok (.ishr, 1) := by decide +kernel
theorem dX1_isAnyoneAllIn_18 : decode cX1_isAnyoneAllIn 18 = .ok (.iand, 1) := by decide +kernel
theorem dX1_isAnyoneAllIn_19 : decode cX1_isAnyoneAllIn 19 = .ok (.aload_n 0, 1) := by decide +kernel
theorem dX1_isAnyoneAllIn_20 : decode cX1_isAnyoneAllIn 20 = .ok (.getfield 25, 3) := by decide +kernel
theorem dX1_isAnyoneAllIn_23 : decode cX1_isAnyoneAllIn 23 = .ok (.bipush 12, 2) := by decide +kernel
theorem dX1_isAnyoneAllIn_25 : decode cX1_isAnyoneAllIn 25 = .ok (.ishr, 1) := by decide +kernel
theorem dX1_isAnyoneAllIn_26 : decode cX1_isAnyoneAllIn 26 = .ok (.iand, 1) := by decide +kernel
theorem dX1_isAnyoneAllIn_27 : decode cX1_isAnyoneAllIn 27 = .ok (.ifCond .eq 7, 3) := by decide +kernel
theorem dX1_isAnyoneAllIn_30 : decode cX1_isAnyoneAllIn 30 = .ok (.iconst 1, 1) := by decide +kernel
theorem dX1_isAnyoneAllIn_31 : decode cX1_isAnyoneAllIn 31 = .ok (.goto 4, 3) := by decide +kernel
theorem dX1_isAnyoneAllIn_34 : decode cX1_isAnyoneAllIn 34 = .ok (.iconst 0, 1) := by decide +kernel
theorem dX1_isAnyoneAllIn_35 : decode cX1_isAnyoneAllIn 35 = .ok (.ireturn, 1) := by decide +kernel
theorem dX1_scoreOf_0 : decode cX1_scoreOf 0 = .ok (.sipush 4369, 3) := by decide +kernel
theorem dX1_scoreOf_3 : decode cX1_scoreOf 3 = .ok (.iload_n 1, 1) := by decide +kernel
theorem dX1_scoreOf_4 : decode cX1_scoreOf 4 = .ok (.ishl, 1) := by decide +kernel
theorem dX1_scoreOf_5 : decode cX1_scoreOf 5 = .ok (.istore_n 2, 1) := by decide +kernel
theorem dX1_scoreOf_6 : decode cX1_scoreOf 6 = .ok (.iconst 3, 1) := by decide +kernel
theorem dX1_scoreOf_7 : decode cX1_scoreOf 7 = .ok (.aload_n 0, 1) := by decide +kernel
theorem dX1_scoreOf_8 : decode cX1_scoreOf 8 = .ok (.getfield 25, 3) := by decide +kernel
theorem dX1_scoreOf_11 : decode cX1_scoreOf 11 = .ok (.iload_n 2, 1) := by decide +kernel
theorem dX1_scoreOf_12 : decode cX1_scoreOf 12 = .ok (.iand, 1) := by decide +kernel
theorem dX1_scoreOf_13 : decode cX1_scoreOf 13 = .ok (.invokestatic 75, 3) := by decide +kernel
theorem dX1_scoreOf_16 : decode cX1_scoreOf 16 = .ok (.imul, 1) := by decide +kernel
theorem dX1_scoreOf_17 : decode cX1_scoreOf 17 = .ok (.aload_n 0, 1) := by decide +kernel
theorem dX1_scoreOf_18 : decode cX1_scoreOf 18 = .ok (.iload_n 1, 1) := by decide +kernel
theorem dX1_scoreOf_19 : decode cX1_scoreOf 19 = .ok (.invokevirtual 80, 3) := by decide +kernel
theorem dX1_scoreOf_22 : decode cX1_scoreOf 22 = .ok (.aload_n 0, 1) := by decide +kernel
theorem dX1_scoreOf_23 : decode cX1_scoreOf 23 = .ok (.getfield 21, 3) := by decide +kernel
theorem dX1_scoreOf_26 : decode cX1_scoreOf 26 = .ok (.iand, 1) := by decide +kernel
theorem dX1_scoreOf_27 : decode cX1_scoreOf 27 = .ok (.invokestatic 75, 3) := by decide +kernel
theorem dX1_scoreOf_30 : decode cX1_scoreOf 30 = .ok (.iadd, 1) := by decide +kernel
theorem dX1_scoreOf_31 : decode cX1_scoreOf 31 = .ok (.ireturn, 1) := by decide +kernel
theorem dX2_init_0 : decode cX2_init 0 = .ok (.aload_n 0, 1) := by decide +kernel
theorem dX2_init_1 : decode cX2_init 1 = .ok (.invokespecial 3, 3) := by decide +kernel
theorem dX2_init_4 : decode cX2_init 4 = .ok (.aload_n 0, 1) := by decide +kernel
theorem dX2_init_5 : decode cX2_init 5 = .ok (.new 9, 3) := by decide +kernel
theorem dX2_init_8 : decode cX2_init 8 = .ok (.dup, 1) := by decide +kernel
theorem dX2_init_9 : decode cX2_init 9 = .ok (.invokespecial 11, 3) := by decide +kernel
theorem dX2_init_12 : decode cX2_init 12 = .ok (.putfield 12, 3) := by decide +kernel
theorem dX2_init_15 : decode cX2_init 15 = .ok (.aload_n 0, 1) := by decide +kernel
theorem dX2_init_16 : decode cX2_init 16 = .ok (.iconst 0, 1) := by decide +kernel
theorem dX2_init_17 : decode cX2_init 17 = .ok (.putfield 18, 3) := by decide +kernel
theorem dX2_init_20 : decode cX2_init 20 = .ok (.aload_n 0, 1) := by decide +kernel
theorem dX2_init_21 : decode cX2_init 21 = .ok (.iconst 0, 1) := by decide +kernel
theorem dX2_init_22 : decode cX2_init 22 = .ok (.putfield 22, 3) := by decide +kernel
theorem dX2_init_25 : decode cX2_init 25 = .ok (.aload_n 0, 1) := by decide +kernel
theorem dX2_init_26 : decode cX2_init 26 = .ok (.bipush 100, 2) := by decide +kernel
theorem dX2_init_28 : decode cX2_init 28 = .ok (.putfield 25, 3) := by decide +kernel
theorem dX2_init_31 : decode cX2_init 31 = .ok (.aload_n 0, 1) := by decide +kernel
theorem dX2_init_32 : decode cX2_init 32 = .ok (.lconst 1, 1) := by decide +kernel
theorem dX2_init_33 : decode cX2_init 33 = .ok (.putfield 28, 3) := by decide +kernel
theorem dX2_init_36 : decode cX2_init 36 = .ok (.aload_n 0, 1) := by decide +kernel
theorem dX2_init_37 : decode cX2_init 37 = .ok (.iconst 0, 1) := by decide +kernel
theorem dX2_init_38 : decode cX2_init 38 = .ok (.putfield 32, 3) := by decide +kernel
theorem dX2_init_41 : decode cX2_init 41 = .ok (.aload_n 0, 1) := by decide +kernel
theorem dX2_init_42 : decode cX2_init 42 = .ok (.iconst 0, 1) := by decide +kernel
theorem dX2_init_43 : decode cX2_init 43 = .ok (.putfield 35, 3) := by decide +kernel
theorem dX2_init_46 : decode cX2_init 46 = .ok (.aload_n 0, 1) := by decide +kernel
theorem dX2_init_47 : decode cX2_init 47 = .ok (.iconst 0, 1) := by decide +kernel
theorem dX2_init_48 : decode cX2_init 48 = .ok (.putfield 38, 3) := by decide +kernel
theorem dX2_init_51 : decode cX2_init 51 = .ok (.return_, 1) := by decide +kernel
theorem dX2_beginAnew_0 : decode cX2_beginAnew 0 = .ok (.aload_n 0, 1) := by decide +kernel
theorem dX2_beginAnew_1 : decode cX2_beginAnew 1 = .ok (.getfield 12, 3) := by decide +kernel
theorem dX2_beginAnew_4 : decode cX2_beginAnew 4 = .ok (.invokevirtual 41, 3) := by decide +kernel
theorem dX2_beginAnew_7 : decode cX2_beginAnew 7 = .ok (.aload_n 0, 1) := by decide +kernel
theorem dX2_beginAnew_8 : decode cX2_beginAnew 8 = .ok (.iconst 0, 1) := by decide +kernel
theorem dX2_beginAnew_9 : decode cX2_beginAnew 9 = .ok (.putfield 32, 3) := by decide +kernel
theorem dX2_beginAnew_12 : decode cX2_beginAnew 12 = .ok (.aload_n 0, 1) := by decide +kernel
theorem dX2_beginAnew_13 : decode cX2_beginAnew 13 = .ok (.iconst 0, 1) := by decide +kernel
theorem dX2_beginAnew_14 : decode cX2_beginAnew 14 = .ok (.putfield 35, 3) := by decide +kernel
theorem dX2_beginAnew_17 : decode cX2_beginAnew 17 = .ok (.aload_n 0, 1) := by decide +kernel
theorem dX2_beginAnew_18 : decode cX2_beginAnew 18 = .ok (.iconst 0, 1) := by decide +kernel
theorem dX2_beginAnew_19 : decode cX2_beginAnew 19 = .ok (.putfield 38, 3) := by decide +kernel
theorem dX2_beginAnew_22 : decode cX2_beginAnew 22 = .ok (.return_, 1) := by decide +kernel
theorem dX2_copyFrom_0 : decode cX2_copyFrom 0 = .ok (.aload_n 0, 1) := by decide +kernel
theorem dX2_copyFrom_1 : decode cX2_copyFrom 1 = .ok (.getfield 12, 3) := by decide +kernel
theorem dX2_copyFrom_4 : decode cX2_copyFrom 4 = .ok (.aload_n 1, 1) := by decide +kernel
theorem dX2_copyFrom_5 : decode cX2_copyFrom 5 = .ok (.getfield 12, 3) := by decide +kernel
theorem dX2_copyFrom_8 : decode cX2_copyFrom 8 = .ok (.invokevirtual 44, 3) := by decide +kernel
theorem dX2_copyFrom_11 : decode cX2_copyFrom 11 = .ok (.aload_n 0, 1) := by decide +kernel
theorem dX2_copyFrom_12 : decode cX2_copyFrom 12 = .ok (.aload_n 1, 1) := by decide +kernel
theorem dX2_copyFrom_13 : decode cX2_copyFrom 13 = .ok (.getfield 18, 3) := by decide +kernel
theorem dX2_copyFrom_16 : decode cX2_copyFrom 16 = .ok (.putfield 18, 3) := by decide +kernel
theorem dX2_copyFrom_19 : decode cX2_copyFrom 19 = .ok (.aload_n 0, 1) := by decide +kernel
theorem dX2_copyFrom_20 : decode cX2_copyFrom 20 = .ok (.aload_n 1, 1) := by decide +kernel
theorem dX2_copyFrom_21 : decode cX2_copyFrom 21 = .ok (.getfield 22, 3) := by decide +kernel
theorem dX2_copyFrom_24 : decode cX2_copyFrom 24 = .ok (.putfield 22, 3) := by decide +kernel
theorem dX2_copyFrom_27 : decode cX2_copyFrom 27 = .ok (.aload_n 0, 1) := by decide +kernel
theorem dX2_copyFrom_28 : decode cX2_copyFrom 28 = .ok (.aload_n 1, 1) := by decide +kernel
theorem dX2_copyFrom_29 : decode cX2_copyFrom 29 = .ok (.getfield 25, 3) := by decide +kernel
theorem dX2_copyFrom_32 : decode cX2_copyFrom 32 = .ok (.putfield 25, 3) := by decide +kernel
theorem dX2_copyFrom_35 : decode cX2_copyFrom 35 = .ok (.aload_n 0, 1) := by decide +kernel
theorem dX2_copyFrom_36 : decode cX2_copyFrom 36 = .ok (.aload_n 1, 1) := by decide +kernel
theorem dX2_copyFrom_37 : decode cX2_copyFrom 37 = .ok (.getfield 28, 3) := by decide +kernel
theorem dX2_copyFrom_40 : decode cX2_copyFrom 40 = .ok (.putfield 28, 3) := by decide +kernel
theorem dX2_copyFrom_43 : decode cX2_copyFrom 43 = .ok (.aload_n 0, 1) := by decide +kernel
theorem dX2_copyFrom_44 : decode cX2_copyFrom 44 = .ok (.aload_n 1, 1) := by decide +kernel
theorem dX2_copyFrom_45 : decode cX2_copyFrom 45 = .ok (.getfield 32, 3) := by decide +kernel
theorem dX2_copyFrom_48 : decode cX2_copyFrom 48 = .ok (.putfield 32, 3) := by decide +kernel
theorem dX2_copyFrom_51 : decode cX2_copyFrom 51 = .ok (.aload_n 0, 1) := by decide +kernel
theorem dX2_copyFrom_52 : decode cX2_copyFrom 52 = .ok (.aload_n 1, 1) := by decide +kernel
theorem dX2_copyFrom_53 : decode cX2_copyFrom 53 = .ok (.getfield 35, 3) := by decide +kernel
theorem dX2_copyFrom_56 : decode cX2_copyFrom 56 = .ok (.putfield 35, 3) := by decide +kernel
theorem dX2_copyFrom_59 : decode cX2_copyFrom 59 = .ok (.aload_n 0, 1) := by decide +kernel
theorem dX2_copyFrom_60 : decode cX2_copyFrom 60 = .ok (.aload_n 1, 1) := by decide +kernel
theorem dX2_copyFrom_61 : decode cX2_copyFrom 61 = .ok (.getfield 38, 3) := by decide +kernel
theorem dX2_copyFrom_64 : decode cX2_copyFrom 64 = .ok (.putfield 38, 3) := by decide +kernel
theorem dX2_copyFrom_67 : decode cX2_copyFrom 67 = .ok (.return_, 1) := by decide +kernel
theorem dX2_changeRough_0 : decode cX2_changeRough 0 = .ok (.aload_n 0, 1) := by decide +kernel
theorem dX2_changeRough_1 : decode cX2_changeRough 1 = .ok (.getfield 18, 3) := by decide +kernel
theorem dX2_changeRough_4 : decode cX2_changeRough 4 = .ok (.istore_n 2, 1) := by decide +kernel
theorem dX2_changeRough_5 : decode cX2_changeRough 5 = .ok (.aload_n 0, 1) := by decide +kernel
theorem dX2_changeRough_6 : decode cX2_changeRough 6 = .ok (.iload_n 1, 1) := by decide +kernel
theorem dX2_changeRough_7 : decode cX2_changeRough 7 = .ok (.putfield 18, 3) := by decide +kernel
theorem dX2_changeRough_10 : decode cX2_changeRough 10 = .ok (.iload_n 2, 1) := by decide +kernel
theorem dX2_changeRough_11 : decode cX2_changeRough 11 = .ok (.ireturn, 1) := by decide +kernel
theorem dX2_changeRun_0 : decode cX2_changeRun 0 = .ok (.aload_n 0, 1) := by decide +kernel
theorem dX2_changeRun_1 : decode cX2_changeRun 1 = .ok (.getfield 22, 3) := by decide +kernel
theorem dX2_changeRun_4 : decode cX2_changeRun 4 = .ok (.istore_n 2, 1) := by decide +kernel
theorem dX2_changeRun_5 : decode cX2_changeRun 5 = .ok (.aload_n 0, 1) := by decide +kernel
theorem dX2_changeRun_6 : decode cX2_changeRun 6 = .ok (.iload_n 1, 1) := by decide +kernel
theorem dX2_changeRun_7 : decode cX2_changeRun 7 = .ok (.putfield 22, 3) := by decide +kernel
theorem dX2_changeRun_10 : decode cX2_changeRun 10 = .ok (.iload_n 2, 1) := by decide +kernel
theorem dX2_changeRun_11 : decode cX2_changeRun 11 = .ok (.ireturn, 1) := by decide +kernel
theorem dX2_changeTime_0 : decode cX2_changeTime 0 = .ok (.iload_n 1, 1) := by decide +kernel
theorem dX2_changeTime_1 : decode cX2_changeTime 1 = .ok (.aload_n 0, 1) := by decide +kernel
theorem dX2_changeTime_2 : decode cX2_changeTime 2 = .ok (.getfield 35, 3) := by decide +kernel
theorem dX2_changeTime_5 : decode cX2_changeTime 5 = .ok (.if_icmp .ge 6, 3) := by decide +kernel
theorem dX2_changeTime_8 : decode cX2_changeTime 8 = .ok (.bipush (-2), 2) := by decide +kernel
theorem dX2_changeTime_10 : decode cX2_changeTime 10 = .ok (.ireturn, 1) := by decide +kernel
theorem dX2_changeTime_11 : decode cX2_changeTime 11 = .ok (.aload_n 0, 1) := by decide +kernel
theorem dX2_changeTime_12 : decode cX2_changeTime 12 = .ok (.getfield 25, 3) := by decide +kernel
theorem dX2_changeTime_15 : decode cX2_changeTime 15 = .ok (.istore_n 2, 1) := by decide +kernel
theorem dX2_changeTime_16 : decode cX2_changeTime 16 = .ok (.aload_n 0, 1) := by decide +kernel
theorem dX2_changeTime_17 : decode cX2_changeTime 17 = .ok (.iload_n 1, 1) := by decide +kernel
theorem dX2_changeTime_18 : decode cX2_changeTime 18 = .ok (.putfield 25, 3) := by decide +kernel
theorem dX2_changeTime_21 : decode cX2_changeTime 21 = .ok (.aload_n 0, 1) := by decide +kernel
theorem dX2_changeTime_22 : decode cX2_changeTime 22 = .ok (.invokevirtual 48, 3) := by decide +kernel
theorem dX2_changeTime_25 : decode cX2_changeTime 25 = .ok (.ifCond .ne 12, 3) := by decide +kernel
theorem dX2_changeTime_28 : decode cX2_changeTime 28 = .ok (.aload_n 0, 1) := by decide +kernel
theorem dX2_changeTime_29 : decode cX2_changeTime 29 = .ok (.iconst 0, 1) := by decide +kernel
theorem dX2_changeTime_30 : decode cX2_changeTime 30 = .ok (.putfield 38, 3) := by decide +kernel
theorem dX2_changeTime_33 : decode cX2_changeTime 33 = .ok (.aload_n 0, 1) := by decide +kernel
theorem dX2_changeTime_34 : decode cX2_changeTime 34 = .ok (.invokevirtual 52, 3) := by decide +kernel
theorem dX2_changeTime_37 : decode cX2_changeTime 37 = .ok (.iload_n 2, 1) := by decide +kernel
theorem dX2_changeTime_38 : decode cX2_changeTime 38 = .ok (.ireturn, 1) := by decide +kernel
theorem dX2_isTimeCome_0 : decode cX2_isTimeCome 0 = .ok (.aload_n 0, 1) := by decide +kernel
theorem dX2_isTimeCome_1 : decode cX2_isTimeCome 1 = .ok (.getfield 35, 3) := by decide +kernel
theorem dX2_isTimeCome_4 : decode cX2_isTimeCome 4 = .ok (.aload_n 0, 1) := by decide +kernel
theorem dX2_isTimeCome_5 : decode cX2_isTimeCome 5 = .ok (.getfield 25, 3) := by decide +kernel
theorem dX2_isTimeCome_8 : decode cX2_isTimeCome 8 = .ok (.if_icmp .lt 7, 3) := by decide +kernel
theorem dX2_isTimeCome_11 : decode cX2_isTimeCome 11 = .ok (.iconst 1, 1) := by decide +kernel
theorem dX2_isTimeCome_12 : decode cX2_isTimeCome 12 = .ok (.goto 4, 3) := by decide +kernel
theorem dX2_isTimeCome_15 : decode cX2_isTimeCome 15 = .ok (.iconst 0, 1) := by decide +kernel
theorem dX2_isTimeCome_16 : decode cX2_isTimeCome 16 = .ok (.ireturn, 1) := by decide +kernel
theorem dX2_roundsLeft_0 : decode cX2_roundsLeft 0 = .ok (.aload_n 0, 1) := by decide +kernel
theorem dX2_roundsLeft_1 : decode cX2_roundsLeft 1 = .ok (.invokevirtual 48, 3) := by decide +kernel
theorem dX2_roundsLeft_4 : decode cX2_roundsLeft 4 = .ok (.ifCond .ne 6, 3) := by decide +kernel
theorem dX2_roundsLeft_7 : decode cX2_roundsLeft 7 = .ok (.bipush (-4), 2) := by decide +kernel
theorem dX2_roundsLeft_9 : decode cX2_roundsLeft 9 = .ok (.ireturn, 1) := by decide +kernel
theorem dX2_roundsLeft_10 : decode cX2_roundsLeft 10 = .ok (.aload_n 0, 1) := by decide +kernel
theorem dX2_roundsLeft_11 : decode cX2_roundsLeft 11 = .ok (.getfield 38, 3) := by decide +kernel
theorem dX2_roundsLeft_14 : decode cX2_roundsLeft 14 = .ok (.ifCond .ne 7, 3) := by decide +kernel
theorem dX2_roundsLeft_17 : decode cX2_roundsLeft 17 = .ok (.iconst 5, 1) := by decide +kernel
theorem dX2_roundsLeft_18 : decode cX2_roundsLeft 18 = .ok (.goto 10, 3) := by decide +kernel
theorem dX2_roundsLeft_21 : decode cX2_roundsLeft 21 = .ok (.bipush 6, 2) := by decide +kernel
theorem dX2_roundsLeft_23 : decode cX2_roundsLeft 23 = .ok (.aload_n 0, 1) := by decide +kernel
theorem dX2_roundsLeft_24 : decode cX2_roundsLeft 24 = .ok (.getfield 38, 3) := by decide +kernel
theorem dX2_roundsLeft_27 : decode cX2_roundsLeft 27 = .ok (.isub, 1) := by decide +kernel
theorem dX2_roundsLeft_28 : decode cX2_roundsLeft 28 = .ok (.ireturn, 1) := by decide +kernel
theorem dX2_isOver_0 : decode cX2_isOver 0 = .ok (.aload_n 0, 1) := by decide +kernel
theorem dX2_isOver_1 : decode cX2_isOver 1 = .ok (.getfield 38, 3) := by decide +kernel
theorem dX2_isOver_4 : decode cX2_isOver 4 = .ok (.iconst 5, 1) := by decide +kernel
theorem dX2_isOver_5 : decode cX2_isOver 5 = .ok (.if_icmp .gt 13, 3) := by decide +kernel
theorem dX2_isOver_8 : decode cX2_isOver 8 = .ok (.aload_n 0, 1) := by decide +kernel
theorem dX2_isOver_9 : decode cX2_isOver 9 = .ok (.getfield 12, 3) := by decide +kernel
theorem dX2_isOver_12 : decode cX2_isOver 12 = .ok (.invokevirtual 55, 3) := by decide +kernel
theorem dX2_isOver_15 : decode cX2_isOver 15 = .ok (.ifCond .eq 7, 3) := by decide +kernel
theorem dX2_isOver_18 : decode cX2_isOver 18 = .ok (.iconst 1, 1) := by decide +kernel
theorem dX2_isOver_19 : decode cX2_isOver 19 = .ok (.goto 4, 3) := by decide +kernel
theorem dX2_isOver_22 : decode cX2_isOver 22 = .ok (.iconst 0, 1) := by decide +kernel
theorem dX2_isOver_23 : decode cX2_isOver 23 = .ok (.ireturn, 1) := by decide +kernel
theorem dX2_mayPlay_0 : decode cX2_mayPlay 0 = .ok (.iload_n 1, 1) := by decide +kernel
theorem dX2_mayPlay_1 : decode cX2_mayPlay 1 = .ok (.invokestatic 58, 3) := by decide +kernel
theorem dX2_mayPlay_4 : decode cX2_mayPlay 4 = .ok (.aload_n 0, 1) := by decide +kernel
theorem dX2_mayPlay_5 : decode cX2_mayPlay 5 = .ok (.getfield 32, 3) := by decide +kernel
theorem dX2_mayPlay_8 : decode cX2_mayPlay 8 = .ok (.if_icmp .ne 25, 3) := by decide +kernel
theorem dX2_mayPlay_11 : decode cX2_mayPlay 11 = .ok (.aload_n 0, 1) := by decide +kernel
theorem dX2_mayPlay_12 : decode cX2_mayPlay 12 = .ok (.getfield 12, 3) := by decide +kernel
theorem dX2_mayPlay_15 : decode cX2_mayPlay 15 = .ok (.iload_n 1, 1) := by decide +kernel
theorem dX2_mayPlay_16 : decode cX2_mayPlay 16 = .ok (.invokevirtual 62, 3) := by decide +kernel
theorem dX2_mayPlay_19 : decode cX2_mayPlay 19 = .ok (.ifCond .eq 14, 3) := by decide +kernel
theorem dX2_mayPlay_22 : decode cX2_mayPlay 22 = .ok (.aload_n 0, 1) := by decide +kernel
theorem dX2_mayPlay_23 : decode cX2_mayPlay 23 = .ok (.invokevirtual 66, 3) := by decide +kernel
theorem dX2_mayPlay_26 : decode cX2_mayPlay 26 = .ok (.ifCond .ne 7, 3) := by decide +kernel
theorem dX2_mayPlay_29 : decode cX2_mayPlay 29 = .ok (.iconst 1, 1) := by decide +kernel
theorem dX2_mayPlay_30 : decode cX2_mayPlay 30 = .ok (.goto 4, 3) := by decide +kernel
theorem dX2_mayPlay_33 : decode cX2_mayPlay 33 = .ok (.iconst 0, 1) := by decide +kernel
theorem dX2_mayPlay_34 : decode cX2_mayPlay 34 = .ok (.ireturn, 1) := by decide +kernel
theorem dX2_playShot_0 : decode cX2_playShot 0 = .ok (.aload_n 0, 1) := by decide +kernel
theorem dX2_playShot_1 : decode cX2_playShot 1 = .ok (.getfield 12, 3) := by decide +kernel
theorem dX2_playShot_4 : decode cX2_playShot 4 = .ok (.getfield 69, 3) := by decide +kernel
theorem dX2_playShot_7 : decode cX2_playShot 7 = .ok (.iload_n 1, 1) := by decide +kernel
theorem dX2_playShot_8 : decode cX2_playShot 8 = .ok (.iaload, 1) := by decide +kernel
theorem dX2_playShot_9 : decode cX2_playShot 9 = .ok (.istore 4, 2) := by decide +kernel
theorem dX2_playShot_11 : decode cX2_playShot 11 = .ok (.aload_n 0, 1) := by decide +kernel
theorem dX2_playShot_12 : decode cX2_playShot 12 = .ok (.getfield 12, 3) := by decide +kernel
theorem dX2_playShot_15 : decode cX2_playShot 15 = .ok (.getfield 73, 3) := by decide +kernel
theorem dX2_playShot_18 : decode cX2_playShot 18 = .ok (.iload_n 1, 1) := by decide +kernel
theorem dX2_playShot_19 : decode cX2_playShot 19 = .ok (.iaload, 1) := by decide +kernel
theorem dX2_playShot_20 : decode cX2_playShot 20 = .ok (.istore 5, 2) := by decide +kernel
theorem dX2_playShot_22 : decode cX2_playShot 22 = .ok (.iload 4, 2) := by decide +kernel
theorem dX2_playShot_24 : decode cX2_playShot 24 = .ok (.iload 5, 2) := by decide +kernel
theorem dX2_playShot_26 : decode cX2_playShot 26 = .ok (.iload_n 2, 1) := by decide +kernel
theorem dX2_playShot_27 : decode cX2_playShot 27 = .ok (.iload_n 3, 1) := by decide +kernel
theorem dX2_playShot_28 : decode cX2_playShot 28 = .ok (.invokestatic 76, 3) := by decide +kernel
theorem dX2_playShot_31 : decode cX2_playShot 31 = .ok (.bipush 8, 2) := by decide +kernel
theorem dX2_playShot_33 : decode cX2_playShot 33 = .ok (.idiv, 1) := by decide +kernel
theorem dX2_playShot_34 : decode cX2_playShot 34 = .ok (.iload_n 1, 1) := by decide +kernel
theorem dX2_playShot_35 : decode cX2_playShot 35 = .ok (.invokestatic 80, 3) := by decide +kernel
theorem dX2_playShot_38 : decode cX2_playShot 38 = .ok (.iadd, 1) := by decide +kernel
theorem dX2_playShot_39 : decode cX2_playShot 39 = .ok (.iconst 1, 1) := by decide +kernel
theorem dX2_playShot_40 : decode cX2_playShot 40 = .ok (.isub, 1) := by decide +kernel
theorem dX2_playShot_41 : decode cX2_playShot 41 = .ok (.aload_n 0, 1) := by decide +kernel
theorem dX2_playShot_42 : decode cX2_playShot 42 = .ok (.getfield 18, 3) := by decide +kernel
theorem dX2_playShot_45 : decode cX2_playShot 45 = .ok (.iadd, 1) := by decide +kernel
theorem dX2_playShot_46 : decode cX2_playShot 46 = .ok (.istore 6, 2) := by decide +kernel
theorem dX2_playShot_48 : decode cX2_playShot 48 = .ok (.iload_n 2, 1) := by decide +kernel
theorem dX2_playShot_49 : decode cX2_playShot 49 = .ok (.aload_n 0, 1) := by decide +kernel
theorem dX2_playShot_50 : decode cX2_playShot 50 = .ok (.iload 6, 2) := by decide +kernel
theorem dX2_playShot_52 : decode cX2_playShot 52 = .ok (.invokevirtual 83, 3) := by decide +kernel
theorem dX2_playShot_55 : decode cX2_playShot 55 = .ok (.iadd, 1) := by decide +kernel
theorem dX2_playShot_56 : decode cX2_playShot 56 = .ok (.istore 7, 2) := by decide +kernel
theorem dX2_playShot_58 : decode cX2_playShot 58 = .ok (.iload_n 3, 1) := by decide +kernel
theorem dX2_playShot_59 : decode cX2_playShot 59 = .ok (.aload_n 0, 1) := by decide +kernel
theorem dX2_playShot_60 : decode cX2_playShot 60 = .ok (.iload 6, 2) := by decide +kernel
theorem dX2_playShot_62 : decode cX2_playShot 62 = .ok (.invokevirtual 83, 3) := by decide +kernel
theorem dX2_playShot_65 : decode cX2_playShot 65 = .ok (.iadd, 1) := by decide +kernel
theorem dX2_playShot_66 : decode cX2_playShot 66 = .ok (.istore 8, 2) := by decide +kernel
theorem dX2_playShot_68 : decode cX2_playShot 68 = .ok (.iload 7, 2) := by decide +kernel
theorem dX2_playShot_70 : decode cX2_playShot 70 = .ok (.iload 8, 2) := by decide +kernel
theorem dX2_playShot_72 : decode cX2_playShot 72 = .ok (.invokestatic 86, 3) := by decide +kernel
theorem dX2_playShot_75 : decode cX2_playShot 75 = .ok (.istore 9, 2) := by decide +kernel
theorem dX2_playShot_77 : decode cX2_playShot 77 = .ok (.iload 9, 2) := by decide +kernel
theorem dX2_playShot_79 : decode cX2_playShot 79 = .ok (.ifCond .eq 18, 3) := by decide +kernel
theorem dX2_playShot_82 : decode cX2_playShot 82 = .ok (.aload_n 0, 1) := by decide +kernel
theorem dX2_playShot_83 : decode cX2_playShot 83 = .ok (.getfield 12, 3) := by decide +kernel
theorem dX2_playShot_86 : decode cX2_playShot 86 = .ok (.iload_n 1, 1) := by decide +kernel
theorem dX2_playShot_87 : decode cX2_playShot 87 = .ok (.bipush 41, 2) := by decide +kernel
theorem dX2_playShot_89 : decode cX2_playShot 89 = .ok (.bipush 41, 2) := by decide +kernel
theorem dX2_playShot_91 : decode cX2_playShot 91 = .ok (.invokevirtual 90, 3) := by decide +kernel
theorem dX2_playShot_94 : decode cX2_playShot 94 = .ok (.goto 55, 3) := by decide +kernel
theorem dX2_playShot_97 : decode cX2_playShot 97 = .ok (.iload 7, 2) := by decide +kernel
theorem dX2_playShot_99 : decode cX2_playShot 99 = .ok (.aload_n 0, 1) := by decide +kernel
theorem dX2_playShot_100 : decode cX2_playShot 100 = .ok (.getfield 22, 3) := by decide +kernel
theorem dX2_playShot_103 : decode cX2_playShot 103 = .ok (.iload_n 2, 1) := by decide +kernel
theorem dX2_playShot_104 : decode cX2_playShot 104 = .ok (.iload 4, 2) := by decide +kernel
theorem dX2_playShot_106 : decode cX2_playShot 106 = .ok (.isub, 1) := by decide +kernel
theorem dX2_playShot_107 : decode cX2_playShot 107 = .ok (.invokestatic 94, 3) := by decide +kernel
theorem dX2_playShot_110 : decode cX2_playShot 110 = .ok (.imul, 1) := by decide +kernel
theorem dX2_playShot_111 : decode cX2_playShot 111 = .ok (.iadd, 1) := by decide +kernel
theorem dX2_playShot_112 : decode cX2_playShot 112 = .ok (.istore 10, 2) := by decide +kernel
theorem dX2_playShot_114 : decode cX2_playShot 114 = .ok (.iload 8, 2) := by decide +kernel
theorem dX2_playShot_116 : decode cX2_playShot 116 = .ok (.aload_n 0, 1) := by decide +kernel
theorem dX2_playShot_117 : decode cX2_playShot 117 = .ok (.getfield 22, 3) := by decide +kernel
theorem dX2_playShot_120 : decode cX2_playShot 120 = .ok (.iload_n 3, 1) := by decide +kernel
theorem dX2_playShot_121 : decode cX2_playShot 121 = .ok (.iload 5, 2) := by decide +kernel
theorem dX2_playShot_123 : decode cX2_playShot 123 = .ok (.isub, 1) := by decide +kernel
theorem dX2_playShot_124 : decode cX2_playShot 124 = .ok (.invokestatic 94, 3) := by decide +kernel
theorem dX2_playShot_127 : decode cX2_playShot 127 = .ok (.imul, 1) := by decide +kernel
theorem dX2_playShot_128 : decode cX2_playShot 128 = .ok (.iadd, 1) := by decide +kernel
theorem dX2_playShot_129 : decode cX2_playShot 129 = .ok (.istore 11, 2) := by decide +kernel
theorem dX2_playShot_131 : decode cX2_playShot 131 = .ok (.aload_n 0, 1) := by decide +kernel
theorem dX2_playShot_132 : decode cX2_playShot 132 = .ok (.getfield 12, 3) := by decide +kernel
theorem dX2_playShot_135 : decode cX2_playShot 135 = .ok (.iload_n 1, 1) := by decide +kernel
theorem dX2_playShot_136 : decode cX2_playShot 136 = .ok (.iload 10, 2) := by decide +kernel
theorem dX2_playShot_138 : decode cX2_playShot 138 = .ok (.invokestatic 97, 3) := by decide +kernel
theorem dX2_playShot_141 : decode cX2_playShot 141 = .ok (.iload 11, 2) := by decide +kernel
theorem dX2_playShot_143 : decode cX2_playShot 143 = .ok (.invokestatic 97, 3) := by decide +kernel
theorem dX2_playShot_146 : decode cX2_playShot 146 = .ok (.invokevirtual 90, 3) := by decide +kernel
theorem dX2_playShot_149 : decode cX2_playShot 149 = .ok (.aload_n 0, 1) := by decide +kernel
theorem dX2_playShot_150 : decode cX2_playShot 150 = .ok (.iload 9, 2) := by decide +kernel
theorem dX2_playShot_152 : decode cX2_playShot 152 = .ok (.invokevirtual 100, 3) := by decide +kernel
theorem dX2_playShot_155 : decode cX2_playShot 155 = .ok (.iload 9, 2) := by decide +kernel
theorem dX2_playShot_157 : decode cX2_playShot 157 = .ok (.ireturn, 1) := by decide +kernel
theorem dX2_blowApart_0 : decode cX2_blowApart 0 = .ok (.iconst 0, 1) := by decide +kernel
theorem dX2_blowApart_1 : decode cX2_blowApart 1 = .ok (.istore_n 2, 1) := by decide +kernel
theorem dX2_blowApart_2 : decode cX2_blowApart 2 = .ok (.iload_n 2, 1) := by decide +kernel
theorem dX2_blowApart_3 : decode cX2_blowApart 3 = .ok (.bipush 16, 2) := by decide +kernel
theorem dX2_blowApart_5 : decode cX2_blowApart 5 = .ok (.if_icmp .ge 67, 3) := by decide +kernel
theorem dX2_blowApart_8 : decode cX2_blowApart 8 = .ok (.iload_n 1, 1) := by decide +kernel
theorem dX2_blowApart_9 : decode cX2_blowApart 9 = .ok (.iconst 1, 1) := by decide +kernel
theorem dX2_blowApart_10 : decode cX2_blowApart 10 = .ok (.iload_n 2, 1) := by decide +kernel
theorem dX2_blowApart_11 : decode cX2_blowApart 11 = .ok (.ishl, 1) := by decide +kernel
theorem dX2_blowApart_12 : decode cX2_blowApart 12 = .ok (.iand, 1) := by decide +kernel
theorem dX2_blowApart_13 : decode cX2_blowApart 13 = .ok (.ifCond .eq 53, 3) := by decide +kernel
theorem dX2_blowApart_16 : decode cX2_blowApart 16 = .ok (.aload_n 0, 1) := by decide +kernel
theorem dX2_blowApart_17 : decode cX2_blowApart 17 = .ok (.getfield 12, 3) := by decide +kernel
theorem dX2_blowApart_20 : decode cX2_blowApart 20 = .ok (.getfield 69, 3) := by decide +kernel
theorem dX2_blowApart_23 : decode cX2_blowApart 23 = .ok (.iload_n 2, 1) := by decide +kernel
theorem dX2_blowApart_24 : decode cX2_blowApart 24 = .ok (.iaload, 1) := by decide +kernel
theorem dX2_blowApart_25 : decode cX2_blowApart 25 = .ok (.aload_n 0, 1) := by decide +kernel
theorem dX2_blowApart_26 : decode cX2_blowApart 26 = .ok (.iconst 3, 1) := by decide +kernel
theorem dX2_blowApart_27 : decode cX2_blowApart 27 = .ok (.invokevirtual 83, 3) := by decide +kernel
theorem dX2_blowApart_30 : decode cX2_blowApart 30 = .ok (.iadd, 1) := by decide +kernel
theorem dX2_blowApart_31 : decode cX2_blowApart 31 = .ok (.istore_n 3, 1) := by decide +kernel
theorem dX2_blowApart_32 : decode cX2_blowApart 32 = .ok (.aload_n 0, 1) := by decide +kernel
theorem dX2_blowApart_33 : decode cX2_blowApart 33 = .ok (.getfield 12, 3) := by decide +kernel
theorem dX2_blowApart_36 : decode cX2_blowApart 36 = .ok (.getfield 73, 3) := by decide +kernel
theorem dX2_blowApart_39 : decode cX2_blowApart 39 = .ok (.iload_n 2, 1) := by decide +kernel
theorem dX2_blowApart_40 : decode cX2_blowApart 40 = .ok (.iaload, 1) := by decide +kernel
theorem dX2_blowApart_41 : decode cX2_blowApart 41 = .ok (.aload_n 0, 1) := by decide +kernel
theorem dX2_blowApart_42 : decode cX2_blowApart 42 = .ok (.iconst 3, 1) := by decide +kernel
theorem dX2_blowApart_43 : decode cX2_blowApart 43 = .ok (.invokevirtual 83, 3) := by decide +kernel
theorem dX2_blowApart_46 : decode cX2_blowApart 46 = .ok (.iadd, 1) := by decide +kernel
theorem dX2_blowApart_47 : decode cX2_blowApart 47 = .ok (.istore 4, 2) := by decide +kernel
theorem dX2_blowApart_49 : decode cX2_blowApart 49 = .ok (.aload_n 0, 1) := by decide +kernel
theorem dX2_blowApart_50 : decode cX2_blowApart 50 = .ok (.getfield 12, 3) := by decide +kernel
theorem dX2_blowApart_53 : decode cX2_blowApart 53 = .ok (.iload_n 2, 1) := by decide +kernel
theorem dX2_blowApart_54 : decode cX2_blowApart 54 = .ok (.iload_n 3, 1) := by decide +kernel
theorem dX2_blowApart_55 : decode cX2_blowApart 55 = .ok (.invokestatic 97, 3) := by decide +kernel
theorem dX2_blowApart_58 : decode cX2_blowApart 58 = .ok (.iload 4, 2) := by decide +kernel
theorem dX2_blowApart_60 : decode cX2_blowApart 60 = .ok (.invokestatic 97, 3) := by decide +kernel
theorem dX2_blowApart_63 : decode cX2_blowApart 63 = .ok (.invokevirtual 90, 3) := by decide +kernel
theorem dX2_blowApart_66 : decode cX2_blowApart 66 = .ok (.iinc 2 1, 3) := by decide +kernel
theorem dX2_blowApart_69 : decode cX2_blowApart 69 = .ok (.goto (-67), 3) := by decide +kernel
theorem dX2_blowApart_72 : decode cX2_blowApart 72 = .ok (.aload_n 0, 1) := by decide +kernel
theorem dX2_blowApart_73 : decode cX2_blowApart 73 = .ok (.iconst 0, 1) := by decide +kernel
theorem dX2_blowApart_74 : decode cX2_blowApart 74 = .ok (.invokevirtual 100, 3) := by decide +kernel
theorem dX2_blowApart_77 : decode cX2_blowApart 77 = .ok (.return_, 1) := by decide +kernel
theorem dX2_follow_0 : decode cX2_follow 0 = .ok (.aload_n 0, 1) := by decide +kernel
theorem dX2_follow_1 : decode cX2_follow 1 = .ok (.iload_n 1, 1) := by decide +kernel
theorem dX2_follow_2 : decode cX2_follow 2 = .ok (.invokevirtual 104, 3) := by decide +kernel
theorem dX2_follow_5 : decode cX2_follow 5 = .ok (.ifCond .ne 5, 3) := by decide +kernel
theorem dX2_follow_8 : decode cX2_follow 8 = .ok (.iconst 0, 1) := by decide +kernel
theorem dX2_follow_9 : decode cX2_follow 9 = .ok (.ireturn, 1) := by decide +kernel
theorem dX2_follow_10 : decode cX2_follow 10 = .ok (.aload_n 0, 1) := by decide +kernel
theorem dX2_follow_11 : decode cX2_follow 11 = .ok (.getfield 12, 3) := by decide +kernel
theorem dX2_follow_14 : decode cX2_follow 14 = .ok (.iload_n 1, 1) := by decide +kernel
theorem dX2_follow_15 : decode cX2_follow 15 = .ok (.iload_n 2, 1) := by decide +kernel
theorem dX2_follow_16 : decode cX2_follow 16 = .ok (.iload_n 3, 1) := by decide +kernel
theorem dX2_follow_17 : decode cX2_follow 17 = .ok (.invokevirtual 90, 3) := by decide +kernel
theorem dX2_follow_20 : decode cX2_follow 20 = .ok (.aload_n 0, 1) := by decide +kernel
theorem dX2_follow_21 : decode cX2_follow 21 = .ok (.iload_n 2, 1) := by decide +kernel
theorem dX2_follow_22 : decode cX2_follow 22 = .ok (.bipush 41, 2) := by decide +kernel
theorem dX2_follow_24 : decode cX2_follow 24 = .ok (.if_icmp .ne 7, 3) := by decide +kernel
theorem dX2_follow_27 : decode cX2_follow 27 = .ok (.iconst 1, 1) := by decide +kernel
theorem dX2_follow_28 : decode cX2_follow 28 = .ok (.goto 4, 3) := by decide +kernel
theorem dX2_follow_31 : decode cX2_follow 31 = .ok (.iconst 0, 1) := by decide +kernel
theorem dX2_follow_32 : decode cX2_follow 32 = .ok (.invokevirtual 100, 3) := by decide +kernel
theorem dX2_follow_35 : decode cX2_follow 35 = .ok (.iconst 1, 1) := by decide +kernel
theorem dX2_follow_36 : decode cX2_follow 36 = .ok (.ireturn, 1) := by decide +kernel
theorem dX2_endTurn_0 : decode cX2_endTurn 0 = .ok (.aload_n 0, 1) := by decide +kernel
theorem dX2_endTurn_1 : decode cX2_endTurn 1 = .ok (.dup, 1) := by decide +kernel
theorem dX2_endTurn_2 : decode cX2_endTurn 2 = .ok (.getfield 35, 3) := by decide +kernel
theorem dX2_endTurn_5 : decode cX2_endTurn 5 = .ok (.iconst 1, 1) := by decide +kernel
theorem dX2_endTurn_6 : decode cX2_endTurn 6 = .ok (.iadd, 1) := by decide +kernel
theorem dX2_endTurn_7 : decode cX2_endTurn 7 = .ok (.putfield 35, 3) := by decide +kernel
theorem dX2_endTurn_10 : decode cX2_endTurn 10 = .ok (.iload_n 1, 1) := by decide +kernel
theorem dX2_endTurn_11 : decode cX2_endTurn 11 = .ok (.ifCond .ne 7, 3) := by decide +kernel
theorem dX2_endTurn_14 : decode cX2_endTurn 14 = .ok (.aload_n 0, 1) := by decide +kernel
theorem dX2_endTurn_15 : decode cX2_endTurn 15 = .ok (.invokevirtual 107, 3) := by decide +kernel
theorem dX2_endTurn_18 : decode cX2_endTurn 18 = .ok (.iconst 0, 1) := by decide +kernel
theorem dX2_endTurn_19 : decode cX2_endTurn 19 = .ok (.istore_n 2, 1) := by decide +kernel
theorem dX2_endTurn_20 : decode cX2_endTurn 20 = .ok (.iload_n 2, 1) := by decide +kernel
theorem dX2_endTurn_21 : decode cX2_endTurn 21 = .ok (.iconst 4, 1) := by decide +kernel
theorem dX2_endTurn_22 : decode cX2_endTurn 22 = .ok (.if_icmp .ge 27, 3) := by decide +kernel
theorem dX2_endTurn_25 : decode cX2_endTurn 25 = .ok (.aload_n 0, 1) := by decide +kernel
theorem dX2_endTurn_26 : decode cX2_endTurn 26 = .ok (.getfield 12, 3) := by decide +kernel
theorem dX2_endTurn_29 : decode cX2_endTurn 29 = .ok (.aload_n 0, 1) := by decide +kernel
theorem dX2_endTurn_30 : decode cX2_endTurn 30 = .ok (.getfield 32, 3) := by decide +kernel
theorem dX2_endTurn_33 : decode cX2_endTurn 33 = .ok (.invokevirtual 110, 3) := by decide +kernel
theorem dX2_endTurn_36 : decode cX2_endTurn 36 = .ok (.ifCond .ne 13, 3) := by decide +kernel
theorem dX2_endTurn_39 : decode cX2_endTurn 39 = .ok (.aload_n 0, 1) := by decide +kernel
theorem dX2_endTurn_40 : decode cX2_endTurn 40 = .ok (.invokevirtual 107, 3) := by decide +kernel
theorem dX2_endTurn_43 : decode cX2_endTurn 43 = .ok (.iinc 2 1, 3) := by decide +kernel
theorem dX2_endTurn_46 : decode cX2_endTurn 46 = .ok (.goto (-26), 3) := by decide +kernel
theorem dX2_endTurn_49 : decode cX2_endTurn 49 = .ok (.return_, 1) := by decide +kernel
theorem dX2_stepTurn_0 : decode cX2_stepTurn 0 = .ok (.aload_n 0, 1) := by decide +kernel
theorem dX2_stepTurn_1 : decode cX2_stepTurn 1 = .ok (.aload_n 0, 1) := by decide +kernel
theorem dX2_stepTurn_2 : decode cX2_stepTurn 2 = .ok (.getfield 32, 3) := by decide +kernel
theorem dX2_stepTurn_5 : decode cX2_stepTurn 5 = .ok (.invokestatic 113, 3) := by decide +kernel
theorem dX2_stepTurn_8 : decode cX2_stepTurn 8 = .ok (.putfield 32, 3) := by decide +kernel
theorem dX2_stepTurn_11 : decode cX2_stepTurn 11 = .ok (.aload_n 0, 1) := by decide +kernel
theorem dX2_stepTurn_12 : decode cX2_stepTurn 12 = .ok (.getfield 32, 3) := by decide +kernel
theorem dX2_stepTurn_15 : decode cX2_stepTurn 15 = .ok (.ifCond .ne 20, 3) := by decide +kernel
theorem dX2_stepTurn_18 : decode cX2_stepTurn 18 = .ok (.aload_n 0, 1) := by decide +kernel
theorem dX2_stepTurn_19 : decode cX2_stepTurn 19 = .ok (.invokevirtual 48, 3) := by decide +kernel
theorem dX2_stepTurn_22 : decode cX2_stepTurn 22 = .ok (.ifCond .eq 13, 3) := by decide +kernel
theorem dX2_stepTurn_25 : decode cX2_stepTurn 25 = .ok (.aload_n 0, 1) := by decide +kernel
theorem dX2_stepTurn_26 : decode cX2_stepTurn 26 = .ok (.dup, 1) := by decide +kernel
theorem dX2_stepTurn_27 : decode cX2_stepTurn 27 = .ok (.getfield 38, 3) := by decide +kernel
theorem dX2_stepTurn_30 : decode cX2_stepTurn 30 = .ok (.iconst 1, 1) := by decide +kernel
theorem dX2_stepTurn_31 : decode cX2_stepTurn 31 = .ok (.iadd, 1) := by decide +kernel
theorem dX2_stepTurn_32 : decode cX2_stepTurn 32 = .ok (.putfield 38, 3) := by decide +kernel
theorem dX2_stepTurn_35 : decode cX2_stepTurn 35 = .ok (.return_, 1) := by decide +kernel
theorem dX2_passOverWithoutRounds_0 : decode cX2_passOverWithoutRounds 0 = .ok (.iconst 0, 1) := by decide +kernel
theorem dX2_passOverWithoutRounds_1 : decode cX2_passOverWithoutRounds 1 = .ok (.istore_n 1, 1) := by decide +kernel
theorem dX2_passOverWithoutRounds_2 : decode cX2_passOverWithoutRounds 2 = .ok (.iload_n 1, 1) := by decide +kernel
theorem dX2_passOverWithoutRounds_3 : decode cX2_passOverWithoutRounds 3 = .ok (.iconst 4, 1) := by decide +kernel
theorem dX2_passOverWithoutRounds_4 : decode cX2_passOverWithoutRounds 4 = .ok (.if_icmp .ge 41, 3) := by decide +kernel
theorem dX2_passOverWithoutRounds_7 : decode cX2_passOverWithoutRounds 7 = .ok (.aload_n 0, 1) := by decide +kernel
theorem dX2_passOverWithoutRounds_8 : decode cX2_passOverWithoutRounds 8 = .ok (.invokevirtual 66, 3) := by decide +kernel
theorem dX2_passOverWithoutRounds_11 : decode cX2_passOverWithoutRounds 11 = .ok (.ifCond .ne 34, 3) := by decide +kernel
theorem dX2_passOverWithoutRounds_14 : decode cX2_passOverWithoutRounds 14 = .ok (.aload_n 0, 1) := by decide +kernel
theorem dX2_passOverWithoutRounds_15 : decode cX2_passOverWithoutRounds 15 = .ok (.getfield 12, 3) := by decide +kernel
theorem dX2_passOverWithoutRounds_18 : decode cX2_passOverWithoutRounds 18 = .ok (.aload_n 0, 1) := by decide +kernel
theorem dX2_passOverWithoutRounds_19 : decode cX2_passOverWithoutRounds 19 = .ok (.getfield 32, 3) := by decide +kernel
theorem dX2_passOverWithoutRounds_22 : decode cX2_passOverWithoutRounds 22 = .ok (.invokevirtual 110, 3) := by decide +kernel
theorem dX2_passOverWithoutRounds_25 : decode cX2_passOverWithoutRounds 25 = .ok (.ifCond .ne 20, 3) := by decide +kernel
theorem dX2_passOverWithoutRounds_28 : decode cX2_passOverWithoutRounds 28 = .ok (.aload_n 0, 1) := by decide +kernel
theorem dX2_passOverWithoutRounds_29 : decode cX2_passOverWithoutRounds 29 = .ok (.aload_n 0, 1) := by decide +kernel
theorem dX2_passOverWithoutRounds_30 : decode cX2_passOverWithoutRounds 30 = .ok (.getfield 32, 3) := by decide +kernel
theorem dX2_passOverWithoutRounds_33 : decode cX2_passOverWithoutRounds 33 = .ok (.invokestatic 113, 3) := by decide +kernel
theorem dX2_passOverWithoutRounds_36 : decode cX2_passOverWithoutRounds 36 = .ok (.putfield 32, 3) := by decide +kernel
theorem dX2_passOverWithoutRounds_39 : decode cX2_passOverWithoutRounds 39 = .ok (.iinc 1 1, 3) := by decide +kernel
theorem dX2_passOverWithoutRounds_42 : decode cX2_passOverWithoutRounds 42 = .ok (.goto (-40), 3) := by decide +kernel
theorem dX2_passOverWithoutRounds_45 : decode cX2_passOverWithoutRounds 45 = .ok (.return_, 1) := by decide +kernel
theorem dX2_playerBehind_0 : decode cX2_playerBehind 0 = .ok (.aload_n 0, 1) := by decide +kernel
theorem dX2_playerBehind_1 : decode cX2_playerBehind 1 = .ok (.getfield 32, 3) := by decide +kernel
theorem dX2_playerBehind_4 : decode cX2_playerBehind 4 = .ok (.invokestatic 113, 3) := by decide +kernel
theorem dX2_playerBehind_7 : decode cX2_playerBehind 7 = .ok (.istore_n 1, 1) := by decide +kernel
theorem dX2_playerBehind_8 : decode cX2_playerBehind 8 = .ok (.iconst 0, 1) := by decide +kernel
theorem dX2_playerBehind_9 : decode cX2_playerBehind 9 = .ok (.istore_n 2, 1) := by decide +kernel
theorem dX2_playerBehind_10 : decode cX2_playerBehind 10 = .ok (.iload_n 2, 1) := by decide +kernel
theorem dX2_playerBehind_11 : decode cX2_playerBehind 11 = .ok (.iconst 4, 1) := by decide +kernel
theorem dX2_playerBehind_12 : decode cX2_playerBehind 12 = .ok (.if_icmp .ge 25, 3) := by decide +kernel
theorem dX2_playerBehind_15 : decode cX2_playerBehind 15 = .ok (.aload_n 0, 1) := by decide +kernel
theorem dX2_playerBehind_16 : decode cX2_playerBehind 16 = .ok (.getfield 12, 3) := by decide +kernel
theorem dX2_playerBehind_19 : decode cX2_playerBehind 19 = .ok (.iload_n 1, 1) := by decide +kernel
theorem dX2_playerBehind_20 : decode cX2_playerBehind 20 = .ok (.invokevirtual 110, 3) := by decide +kernel
theorem dX2_playerBehind_23 : decode cX2_playerBehind 23 = .ok (.ifCond .ne 14, 3) := by decide +kernel
theorem dX2_playerBehind_26 : decode cX2_playerBehind 26 = .ok (.iload_n 1, 1) := by decide +kernel
theorem dX2_playerBehind_27 : decode cX2_playerBehind 27 = .ok (.invokestatic 113, 3) := by decide +kernel
theorem dX2_playerBehind_30 : decode cX2_playerBehind 30 = .ok (.istore_n 1, 1) := by decide +kernel
theorem dX2_playerBehind_31 : decode cX2_playerBehind 31 = .ok (.iinc 2 1, 3) := by decide +kernel
theorem dX2_playerBehind_34 : decode cX2_playerBehind 34 = .ok (.goto (-24), 3) := by decide +kernel
theorem dX2_playerBehind_37 : decode cX2_playerBehind 37 = .ok (.iload_n 1, 1) := by decide +kernel
theorem dX2_playerBehind_38 : decode cX2_playerBehind 38 = .ok (.ireturn, 1) := by decide +kernel
theorem dX2_drawOff_0 : decode cX2_drawOff 0 = .ok (.aload_n 0, 1) := by decide +kernel
theorem dX2_drawOff_1 : decode cX2_drawOff 1 = .ok (.aload_n 0, 1) := by decide +kernel
theorem dX2_drawOff_2 : decode cX2_drawOff 2 = .ok (.getfield 28, 3) := by decide +kernel
theorem dX2_drawOff_5 : decode cX2_drawOff 5 = .ok (.ldc2_w 116, 3) := by decide +kernel
theorem dX2_drawOff_8 : decode cX2_drawOff 8 = .ok (.lmul, 1) := by decide +kernel
theorem dX2_drawOff_9 : decode cX2_drawOff 9 = .ok (.ldc2_w 118, 3) := by decide +kernel
theorem dX2_drawOff_12 : decode cX2_drawOff 12 = .ok (.lrem, 1) := by decide +kernel
theorem dX2_drawOff_13 : decode cX2_drawOff 13 = .ok (.putfield 28, 3) := by decide +kernel
theorem dX2_drawOff_16 : decode cX2_drawOff 16 = .ok (.aload_n 0, 1) := by decide +kernel
theorem dX2_drawOff_17 : decode cX2_drawOff 17 = .ok (.getfield 28, 3) := by decide +kernel
theorem dX2_drawOff_20 : decode cX2_drawOff 20 = .ok (.iconst 2, 1) := by decide +kernel
theorem dX2_drawOff_21 : decode cX2_drawOff 21 = .ok (.iload_n 1, 1) := by decide +kernel
theorem dX2_drawOff_22 : decode cX2_drawOff 22 = .ok (.imul, 1) := by decide +kernel
theorem dX2_drawOff_23 : decode cX2_drawOff 23 = .ok (.iconst 1, 1) := by decide +kernel
theorem dX2_drawOff_24 : decode cX2_drawOff 24 = .ok (.iadd, 1) := by decide +kernel
theorem dX2_drawOff_25 : decode cX2_drawOff 25 = .ok (.i2l, 1) := by decide +kernel
theorem dX2_drawOff_26 : decode cX2_drawOff 26 = .ok (.lrem, 1) := by decide +kernel
theorem dX2_drawOff_27 : decode cX2_drawOff 27 = .ok (.l2i, 1) := by decide +kernel
theorem dX2_drawOff_28 : decode cX2_drawOff 28 = .ok (.iload_n 1, 1) := by decide +kernel
theorem dX2_drawOff_29 : decode cX2_drawOff 29 = .ok (.isub, 1) := by decide +kernel
theorem dX2_drawOff_30 : decode cX2_drawOff 30 = .ok (.ireturn, 1) := by decide +kernel
theorem dX2_nextInRound_0 : decode cX2_nextInRound 0 = .ok (.iload_n 0, 1) := by decide +kernel
theorem dX2_nextInRound_1 : decode cX2_nextInRound 1 = .ok (.iconst 1, 1) := by decide +kernel
theorem dX2_nextInRound_2 : decode cX2_nextInRound 2 = .ok (.iadd, 1) := by decide +kernel
theorem dX2_nextInRound_3 : decode cX2_nextInRound 3 = .ok (.iconst 4, 1) := by decide +kernel
theorem dX2_nextInRound_4 : decode cX2_nextInRound 4 = .ok (.irem, 1) := by decide +kernel
theorem dX2_nextInRound_5 : decode cX2_nextInRound 5 = .ok (.ireturn, 1) := by decide +kernel
theorem dX2_doesCupTake_0 : decode cX2_doesCupTake 0 = .ok (.iload_n 0, 1) := by decide +kernel
theorem dX2_doesCupTake_1 : decode cX2_doesCupTake 1 = .ok (.bipush 20, 2) := by decide +kernel
theorem dX2_doesCupTake_3 : decode cX2_doesCupTake 3 = .ok (.isub, 1) := by decide +kernel
theorem dX2_doesCupTake_4 : decode cX2_doesCupTake 4 = .ok (.istore_n 2, 1) := by decide +kernel
theorem dX2_doesCupTake_5 : decode cX2_doesCupTake 5 = .ok (.iload_n 1, 1) := by decide +kernel
theorem dX2_doesCupTake_6 : decode cX2_doesCupTake 6 = .ok (.bipush 20, 2) := by decide +kernel
theorem dX2_doesCupTake_8 : decode cX2_doesCupTake 8 = .ok (.isub, 1) := by decide +kernel
theorem dX2_doesCupTake_9 : decode cX2_doesCupTake 9 = .ok (.istore_n 3, 1) := by decide +kernel
theorem dX2_doesCupTake_10 : decode cX2_doesCupTake 10 = .ok (.iload_n 2, 1) := by decide +kernel
theorem dX2_doesCupTake_11 : decode cX2_doesCupTake 11 = .ok (.iload_n 2, 1) := by decide +kernel
theorem dX2_doesCupTake_12 : decode cX2_doesCupTake 12 = .ok (.imul, 1) := by decide +kernel
theorem dX2_doesCupTake_13 : decode cX2_doesCupTake 13 = .ok (.iload_n 3, 1) := by decide +kernel
theorem dX2_doesCupTake_14 : decode cX2_doesCupTake 14 = .ok (.iload_n 3, 1) := by decide +kernel
theorem dX2_doesCupTake_15 : decode cX2_doesCupTake 15 = .ok (.imul, 1) := by decide +kernel
theorem dX2_doesCupTake_16 : decode cX2_doesCupTake 16 = .ok (.iadd, 1) := by decide +kernel
theorem dX2_doesCupTake_17 : decode cX2_doesCupTake 17 = .ok (.iconst 4, 1) := by decide +kernel
theorem dX2_doesCupTake_18 : decode cX2_doesCupTake 18 = .ok (.if_icmp .gt 7, 3) := by decide +kernel
theorem dX2_doesCupTake_21 : decode cX2_doesCupTake 21 = .ok (.iconst 1, 1) := by decide +kernel
theorem dX2_doesCupTake_22 : decode cX2_doesCupTake 22 = .ok (.goto 4, 3) := by decide +kernel
theorem dX2_doesCupTake_25 : decode cX2_doesCupTake 25 = .ok (.iconst 0, 1) := by decide +kernel
theorem dX2_doesCupTake_26 : decode cX2_doesCupTake 26 = .ok (.ireturn, 1) := by decide +kernel
theorem dX2_nearestOnMat_0 : decode cX2_nearestOnMat 0 = .ok (.iconst 0, 1) := by decide +kernel
theorem dX2_nearestOnMat_1 : decode cX2_nearestOnMat 1 = .ok (.bipush 40, 2) := by decide +kernel
theorem dX2_nearestOnMat_3 : decode cX2_nearestOnMat 3 = .ok (.iload_n 0, 1) := by decide +kernel
theorem dX2_nearestOnMat_4 : decode cX2_nearestOnMat 4 = .ok (.invokestatic 120, 3) := by decide +kernel
theorem dX2_nearestOnMat_7 : decode cX2_nearestOnMat 7 = .ok (.invokestatic 126, 3) := by decide +kernel
theorem dX2_nearestOnMat_10 : decode cX2_nearestOnMat 10 = .ok (.ireturn, 1) := by decide +kernel
theorem dX2_signOf_0 : decode cX2_signOf 0 = .ok (.iload_n 0, 1) := by decide +kernel
theorem dX2_signOf_1 : decode cX2_signOf 1 = .ok (.ifCond .le 7, 3) := by decide +kernel
theorem dX2_signOf_4 : decode cX2_signOf 4 = .ok (.iconst 1, 1) := by decide +kernel
theorem dX2_signOf_5 : decode cX2_signOf 5 = .ok (.goto 12, 3) := by decide +kernel
theorem dX2_signOf_8 : decode cX2_signOf 8 = .ok (.iload_n 0, 1) := by decide +kernel
theorem dX2_signOf_9 : decode cX2_signOf 9 = .ok (.ifCond .ge 7, 3) := by decide +kernel
theorem dX2_signOf_12 : decode cX2_signOf 12 = .ok (.iconst (-1), 1) := by decide +kernel
theorem dX2_signOf_13 : decode cX2_signOf 13 = .ok (.goto 4, 3) := by decide +kernel
theorem dX2_signOf_16 : decode cX2_signOf 16 = .ok (.iconst 0, 1) := by decide +kernel
theorem dX2_signOf_17 : decode cX2_signOf 17 = .ok (.ireturn, 1) := by decide +kernel
theorem dX3_init_0 : decode cX3_init 0 = .ok (.aload_n 0, 1) := by decide +kernel
theorem dX3_init_1 : decode cX3_init 1 = .ok (.invokespecial 3, 3) := by decide +kernel
theorem dX3_init_4 : decode cX3_init 4 = .ok (.aload_n 0, 1) := by decide +kernel
theorem dX3_init_5 : decode cX3_init 5 = .ok (.bipush 24, 2) := by decide +kernel
theorem dX3_init_7 : decode cX3_init 7 = .ok (.newarray .int, 2) := by decide +kernel
theorem dX3_init_9 : decode cX3_init 9 = .ok (.putfield 9, 3) := by decide +kernel
theorem dX3_init_12 : decode cX3_init 12 = .ok (.aload_n 0, 1) := by decide +kernel
theorem dX3_init_13 : decode cX3_init 13 = .ok (.bipush 24, 2) := by decide +kernel
theorem dX3_init_15 : decode cX3_init 15 = .ok (.newarray .int, 2) := by decide +kernel
theorem dX3_init_17 : decode cX3_init 17 = .ok (.putfield 15, 3) := by decide +kernel
theorem dX3_init_20 : decode cX3_init 20 = .ok (.aload_n 0, 1) := by decide +kernel
theorem dX3_init_21 : decode cX3_init 21 = .ok (.bipush 24, 2) := by decide +kernel
theorem dX3_init_23 : decode cX3_init 23 = .ok (.newarray .int, 2) := by decide +kernel
theorem dX3_init_25 : decode cX3_init 25 = .ok (.putfield 18, 3) := by decide +kernel
theorem dX3_init_28 : decode cX3_init 28 = .ok (.aload_n 0, 1) := by decide +kernel
theorem dX3_init_29 : decode cX3_init 29 = .ok (.iconst 0, 1) := by decide +kernel
theorem dX3_init_30 : decode cX3_init 30 = .ok (.putfield 21, 3) := by decide +kernel
theorem dX3_init_33 : decode cX3_init 33 = .ok (.aload_n 0, 1) := by decide +kernel
theorem dX3_init_34 : decode cX3_init 34 = .ok (.iconst 0, 1) := by decide +kernel
theorem dX3_init_35 : decode cX3_init 35 = .ok (.putfield 25, 3) := by decide +kernel
theorem dX3_init_38 : decode cX3_init 38 = .ok (.aload_n 0, 1) := by decide +kernel
theorem dX3_init_39 : decode cX3_init 39 = .ok (.bipush (-4), 2) := by decide +kernel
theorem dX3_init_41 : decode cX3_init 41 = .ok (.putfield 28, 3) := by decide +kernel
theorem dX3_init_44 : decode cX3_init 44 = .ok (.aload_n 0, 1) := by decide +kernel
theorem dX3_init_45 : decode cX3_init 45 = .ok (.bipush (-4), 2) := by decide +kernel
theorem dX3_init_47 : decode cX3_init 47 = .ok (.putfield 31, 3) := by decide +kernel
theorem dX3_init_50 : decode cX3_init 50 = .ok (.aload_n 0, 1) := by decide +kernel
theorem dX3_init_51 : decode cX3_init 51 = .ok (.new 34, 3) := by decide +kernel
theorem dX3_init_54 : decode cX3_init 54 = .ok (.dup, 1) := by decide +kernel
theorem dX3_init_55 : decode cX3_init 55 = .ok (.invokespecial 36, 3) := by decide +kernel
theorem dX3_init_58 : decode cX3_init 58 = .ok (.putfield 37, 3) := by decide +kernel
theorem dX3_init_61 : decode cX3_init 61 = .ok (.aload_n 0, 1) := by decide +kernel
theorem dX3_init_62 : decode cX3_init 62 = .ok (.new 34, 3) := by decide +kernel
theorem dX3_init_65 : decode cX3_init 65 = .ok (.dup, 1) := by decide +kernel
theorem dX3_init_66 : decode cX3_init 66 = .ok (.invokespecial 36, 3) := by decide +kernel
theorem dX3_init_69 : decode cX3_init 69 = .ok (.putfield 41, 3) := by decide +kernel
theorem dX3_init_72 : decode cX3_init 72 = .ok (.return_, 1) := by decide +kernel
theorem dX3_add_0 : decode cX3_add 0 = .ok (.aload_n 0, 1) := by decide +kernel
theorem dX3_add_1 : decode cX3_add 1 = .ok (.getfield 21, 3) := by decide +kernel
theorem dX3_add_4 : decode cX3_add 4 = .ok (.bipush 24, 2) := by decide +kernel
theorem dX3_add_6 : decode cX3_add 6 = .ok (.if_icmp .lt 6, 3) := by decide +kernel
theorem dX3_add_9 : decode cX3_add 9 = .ok (.bipush (-3), 2) := by decide +kernel
theorem dX3_add_11 : decode cX3_add 11 = .ok (.ireturn, 1) := by decide +kernel
theorem dX3_add_12 : decode cX3_add 12 = .ok (.aload_n 0, 1) := by decide +kernel
theorem dX3_add_13 : decode cX3_add 13 = .ok (.getfield 9, 3) := by decide +kernel
theorem dX3_add_16 : decode cX3_add 16 = .ok (.aload_n 0, 1) := by decide +kernel
theorem dX3_add_17 : decode cX3_add 17 = .ok (.getfield 21, 3) := by decide +kernel
theorem dX3_add_20 : decode cX3_add 20 = .ok (.iload_n 1, 1) := by decide +kernel
theorem dX3_add_21 : decode cX3_add 21 = .ok (.iastore, 1) := by decide +kernel
theorem dX3_add_22 : decode cX3_add 22 = .ok (.aload_n 0, 1) := by decide +kernel
theorem dX3_add_23 : decode cX3_add 23 = .ok (.getfield 15, 3) := by decide +kernel
theorem dX3_add_26 : decode cX3_add 26 = .ok (.aload_n 0, 1) := by decide +kernel
theorem dX3_add_27 : decode cX3_add 27 = .ok (.getfield 21, 3) := by decide +kernel
theorem dX3_add_30 : decode cX3_add 30 = .ok (.iload_n 2, 1) := by decide +kernel
theorem dX3_add_31 : decode cX3_add 31 = .ok (.iastore, 1) := by decide +kernel
theorem dX3_add_32 : decode cX3_add 32 = .ok (.aload_n 0, 1) := by decide +kernel
theorem dX3_add_33 : decode cX3_add 33 = .ok (.getfield 18, 3) := by decide +kernel
theorem dX3_add_36 : decode cX3_add 36 = .ok (.aload_n 0, 1) := by decide +kernel
theorem dX3_add_37 : decode cX3_add 37 = .ok (.getfield 21, 3) := by decide +kernel
theorem dX3_add_40 : decode cX3_add 40 = .ok (.iload_n 3, 1) := by decide +kernel
theorem dX3_add_41 : decode cX3_add 41 = .ok (.iastore, 1) := by decide +kernel
theorem dX3_add_42 : decode cX3_add 42 = .ok (.aload_n 0, 1) := by decide +kernel
theorem dX3_add_43 : decode cX3_add 43 = .ok (.dup, 1) := by decide +kernel
theorem dX3_add_44 : decode cX3_add 44 = .ok (.getfield 21, 3) := by decide +kernel
theorem dX3_add_47 : decode cX3_add 47 = .ok (.iconst 1, 1) := by decide +kernel
theorem dX3_add_48 : decode cX3_add 48 = .ok (.iadd, 1) := by decide +kernel
theorem dX3_add_49 : decode cX3_add 49 = .ok (.putfield 21, 3) := by decide +kernel
theorem dX3_add_52 : decode cX3_add 52 = .ok (.aload_n 0, 1) := by decide +kernel
theorem dX3_add_53 : decode cX3_add 53 = .ok (.bipush (-4), 2) := by decide +kernel
theorem dX3_add_55 : decode cX3_add 55 = .ok (.putfield 31, 3) := by decide +kernel
theorem dX3_add_58 : decode cX3_add 58 = .ok (.aload_n 0, 1) := by decide +kernel
theorem dX3_add_59 : decode cX3_add 59 = .ok (.getfield 21, 3) := by decide +kernel
theorem dX3_add_62 : decode cX3_add 62 = .ok (.ireturn, 1) := by decide +kernel
theorem dX3_clear_0 : decode cX3_clear 0 = .ok (.aload_n 0, 1) := by decide +kernel
theorem dX3_clear_1 : decode cX3_clear 1 = .ok (.getfield 21, 3) := by decide +kernel
theorem dX3_clear_4 : decode cX3_clear 4 = .ok (.istore_n 1, 1) := by decide +kernel
theorem dX3_clear_5 : decode cX3_clear 5 = .ok (.aload_n 0, 1) := by decide +kernel
theorem dX3_clear_6 : decode cX3_clear 6 = .ok (.iconst 0, 1) := by decide +kernel
theorem dX3_clear_7 : decode cX3_clear 7 = .ok (.putfield 21, 3) := by decide +kernel
theorem dX3_clear_10 : decode cX3_clear 10 = .ok (.aload_n 0, 1) := by decide +kernel
theorem dX3_clear_11 : decode cX3_clear 11 = .ok (.bipush (-4), 2) := by decide +kernel
theorem dX3_clear_13 : decode cX3_clear 13 = .ok (.putfield 31, 3) := by decide +kernel
theorem dX3_clear_16 : decode cX3_clear 16 = .ok (.iload_n 1, 1) := by decide +kernel
theorem dX3_clear_17 : decode cX3_clear 17 = .ok (.ireturn, 1) := by decide +kernel
theorem dX3_firstWrong_0 : decode cX3_firstWrong 0 = .ok (.aload_n 0, 1) := by decide +kernel
theorem dX3_firstWrong_1 : decode cX3_firstWrong 1 = .ok (.getfield 41, 3) := by decide +kernel
theorem dX3_firstWrong_4 : decode cX3_firstWrong 4 = .ok (.iload_n 1, 1) := by decide +kernel
theorem dX3_firstWrong_5 : decode cX3_firstWrong 5 = .ok (.invokestatic 44, 3) := by decide +kernel
theorem dX3_firstWrong_8 : decode cX3_firstWrong 8 = .ok (.aload_n 0, 1) := by decide +kernel
theorem dX3_firstWrong_9 : decode cX3_firstWrong 9 = .ok (.aload_n 0, 1) := by decide +kernel
theorem dX3_firstWrong_10 : decode cX3_firstWrong 10 = .ok (.getfield 41, 3) := by decide +kernel
theorem dX3_firstWrong_13 : decode cX3_firstWrong 13 = .ok (.iconst 0, 1) := by decide +kernel
theorem dX3_firstWrong_14 : decode cX3_firstWrong 14 = .ok (.aload_n 0, 1) := by decide +kernel
theorem dX3_firstWrong_15 : decode cX3_firstWrong 15 = .ok (.getfield 21, 3) := by decide +kernel
theorem dX3_firstWrong_18 : decode cX3_firstWrong 18 = .ok (.invokevirtual 48, 3) := by decide +kernel
theorem dX3_firstWrong_21 : decode cX3_firstWrong 21 = .ok (.ireturn, 1) := by decide +kernel
theorem dX3_onlyGap_0 : decode cX3_onlyGap 0 = .ok (.bipush (-4), 2) := by decide +kernel
theorem dX3_onlyGap_2 : decode cX3_onlyGap 2 = .ok (.istore_n 1, 1) := by decide +kernel
theorem dX3_onlyGap_3 : decode cX3_onlyGap 3 = .ok (.iconst 0, 1) := by decide +kernel
theorem dX3_onlyGap_4 : decode cX3_onlyGap 4 = .ok (.istore_n 2, 1) := by decide +kernel
theorem dX3_onlyGap_5 : decode cX3_onlyGap 5 = .ok (.iload_n 2, 1) := by decide +kernel
theorem dX3_onlyGap_6 : decode cX3_onlyGap 6 = .ok (.aload_n 0, 1) := by decide +kernel
theorem dX3_onlyGap_7 : decode cX3_onlyGap 7 = .ok (.getfield 21, 3) := by decide +kernel
theorem dX3_onlyGap_10 : decode cX3_onlyGap 10 = .ok (.if_icmp .ge 36, 3) := by decide +kernel
theorem dX3_onlyGap_13 : decode cX3_onlyGap 13 = .ok (.iload_n 2, 1) := by decide +kernel
theorem dX3_onlyGap_14 : decode cX3_onlyGap 14 = .ok (.bipush 24, 2) := by decide +kernel
theorem dX3_onlyGap_16 : decode cX3_onlyGap 16 = .ok (.if_icmp .ge 30, 3) := by decide +kernel
theorem dX3_onlyGap_19 : decode cX3_onlyGap 19 = .ok (.aload_n 0, 1) := by decide +kernel
theorem dX3_onlyGap_20 : decode cX3_onlyGap 20 = .ok (.getfield 15, 3) := by decide +kernel
theorem dX3_onlyGap_23 : decode cX3_onlyGap 23 = .ok (.iload_n 2, 1) := by decide +kernel
theorem dX3_onlyGap_24 : decode cX3_onlyGap 24 = .ok (.iaload, 1) := by decide +kernel
theorem dX3_onlyGap_25 : decode cX3_onlyGap 25 = .ok (.iconst (-1), 1) := by decide +kernel
theorem dX3_onlyGap_26 : decode cX3_onlyGap 26 = .ok (.if_icmp .ne 14, 3) := by decide +kernel
theorem dX3_onlyGap_29 : decode cX3_onlyGap 29 = .ok (.iload_n 1, 1) := by decide +kernel
theorem dX3_onlyGap_30 : decode cX3_onlyGap 30 = .ok (.bipush (-4), 2) := by decide +kernel
theorem dX3_onlyGap_32 : decode cX3_onlyGap 32 = .ok (.if_icmp .eq 6, 3) := by decide +kernel
theorem dX3_onlyGap_35 : decode cX3_onlyGap 35 = .ok (.bipush (-4), 2) := by decide +kernel
theorem dX3_onlyGap_37 : decode cX3_onlyGap 37 = .ok (.ireturn, 1) := by decide +kernel
theorem dX3_onlyGap_38 : decode cX3_onlyGap 38 = .ok (.iload_n 2, 1) := by decide +kernel
theorem dX3_onlyGap_39 : decode cX3_onlyGap 39 = .ok (.istore_n 1, 1) := by decide +kernel
theorem dX3_onlyGap_40 : decode cX3_onlyGap 40 = .ok (.iinc 2 1, 3) := by decide +kernel
theorem dX3_onlyGap_43 : decode cX3_onlyGap 43 = .ok (.goto (-38), 3) := by decide +kernel
theorem dX3_onlyGap_46 : decode cX3_onlyGap 46 = .ok (.iload_n 1, 1) := by decide +kernel
theorem dX3_onlyGap_47 : decode cX3_onlyGap 47 = .ok (.ireturn, 1) := by decide +kernel
theorem dX3_findPlaces_0 : decode cX3_findPlaces 0 = .ok (.aload_n 0, 1) := by decide +kernel
theorem dX3_findPlaces_1 : decode cX3_findPlaces 1 = .ok (.getfield 31, 3) := by decide +kernel
theorem dX3_findPlaces_4 : decode cX3_findPlaces 4 = .ok (.iload_n 2, 1) := by decide +kernel
theorem dX3_findPlaces_5 : decode cX3_findPlaces 5 = .ok (.if_icmp .ne 4, 3) := by decide +kernel
theorem dX3_findPlaces_8 : decode cX3_findPlaces 8 = .ok (.return_, 1) := by decide +kernel
theorem dX3_findPlaces_9 : decode cX3_findPlaces 9 = .ok (.aload_n 0, 1) := by decide +kernel
theorem dX3_findPlaces_10 : decode cX3_findPlaces 10 = .ok (.iload_n 2, 1) := by decide +kernel
theorem dX3_findPlaces_11 : decode cX3_findPlaces 11 = .ok (.putfield 31, 3) := by decide +kernel
theorem dX3_findPlaces_14 : decode cX3_findPlaces 14 = .ok (.aload_n 0, 1) := by decide +kernel
theorem dX3_findPlaces_15 : decode cX3_findPlaces 15 = .ok (.iconst 0, 1) := by decide +kernel
theorem dX3_findPlaces_16 : decode cX3_findPlaces 16 = .ok (.putfield 25, 3) := by decide +kernel
theorem dX3_findPlaces_19 : decode cX3_findPlaces 19 = .ok (.aload_n 0, 1) := by decide +kernel
theorem dX3_findPlaces_20 : decode cX3_findPlaces 20 = .ok (.bipush (-4), 2) := by decide +kernel
theorem dX3_findPlaces_22 : decode cX3_findPlaces 22 = .ok (.putfield 28, 3) := by decide +kernel
theorem dX3_findPlaces_25 : decode cX3_findPlaces 25 = .ok (.aload_n 0, 1) := by decide +kernel
theorem dX3_findPlaces_26 : decode cX3_findPlaces 26 = .ok (.getfield 37, 3) := by decide +kernel
theorem dX3_findPlaces_29 : decode cX3_findPlaces 29 = .ok (.iload_n 2, 1) := by decide +kernel
theorem dX3_findPlaces_30 : decode cX3_findPlaces 30 = .ok (.invokestatic 44, 3) := by decide +kernel
theorem dX3_findPlaces_33 : decode cX3_findPlaces 33 = .ok (.aload_n 0, 1) := by decide +kernel
theorem dX3_findPlaces_34 : decode cX3_findPlaces 34 = .ok (.aload_n 0, 1) := by decide +kernel
theorem dX3_findPlaces_35 : decode cX3_findPlaces 35 = .ok (.getfield 37, 3) := by decide +kernel
theorem dX3_findPlaces_38 : decode cX3_findPlaces 38 = .ok (.iconst 0, 1) := by decide +kernel
theorem dX3_findPlaces_39 : decode cX3_findPlaces 39 = .ok (.iload_n 1, 1) := by decide +kernel
theorem dX3_findPlaces_40 : decode cX3_findPlaces 40 = .ok (.invokevirtual 48, 3) := by decide +kernel
theorem dX3_findPlaces_43 : decode cX3_findPlaces 43 = .ok (.bipush (-4), 2) := by decide +kernel
theorem dX3_findPlaces_45 : decode cX3_findPlaces 45 = .ok (.if_icmp .eq 4, 3) := by decide +kernel
theorem dX3_findPlaces_48 : decode cX3_findPlaces 48 = .ok (.return_, 1) := by decide +kernel
theorem dX3_findPlaces_49 : decode cX3_findPlaces 49 = .ok (.aload_n 0, 1) := by decide +kernel
theorem dX3_findPlaces_50 : decode cX3_findPlaces 50 = .ok (.iload_n 1, 1) := by decide +kernel
theorem dX3_findPlaces_51 : decode cX3_findPlaces 51 = .ok (.iconst (-1), 1) := by decide +kernel
theorem dX3_findPlaces_52 : decode cX3_findPlaces 52 = .ok (.iconst (-1), 1) := by decide +kernel
theorem dX3_findPlaces_53 : decode cX3_findPlaces 53 = .ok (.invokevirtual 52, 3) := by decide +kernel
theorem dX3_findPlaces_56 : decode cX3_findPlaces 56 = .ok (.istore_n 3, 1) := by decide +kernel
theorem dX3_findPlaces_57 : decode cX3_findPlaces 57 = .ok (.iconst 0, 1) := by decide +kernel
theorem dX3_findPlaces_58 : decode cX3_findPlaces 58 = .ok (.istore 4, 2) := by decide +kernel
theorem dX3_findPlaces_60 : decode cX3_findPlaces 60 = .ok (.iload 4, 2) := by decide +kernel
theorem dX3_findPlaces_62 : decode cX3_findPlaces 62 = .ok (.bipush 40, 2) := by decide +kernel
theorem dX3_findPlaces_64 : decode cX3_findPlaces 64 = .ok (.if_icmp .gt 63, 3) := by decide +kernel
theorem dX3_findPlaces_67 : decode cX3_findPlaces 67 = .ok (.iconst 0, 1) := by decide +kernel
theorem dX3_findPlaces_68 : decode cX3_findPlaces 68 = .ok (.istore 5, 2) := by decide +kernel
theorem dX3_findPlaces_70 : decode cX3_findPlaces 70 = .ok (.iload 5, 2) := by decide +kernel
theorem dX3_findPlaces_72 : decode cX3_findPlaces 72 = .ok (.bipush 40, 2) := by decide +kernel
theorem dX3_findPlaces_74 : decode cX3_findPlaces 74 = .ok (.if_icmp .gt 47, 3) := by decide +kernel
theorem dX3_findPlaces_77 : decode cX3_findPlaces 77 = .ok (.aload_n 0, 1) := by decide +kernel
theorem dX3_findPlaces_78 : decode cX3_findPlaces 78 = .ok (.iload 4, 2) := by decide +kernel
theorem dX3_findPlaces_80 : decode cX3_findPlaces 80 = .ok (.iload 5, 2) := by decide +kernel
theorem dX3_findPlaces_82 : decode cX3_findPlaces 82 = .ok (.invokevirtual 56, 3) := by decide +kernel
theorem dX3_findPlaces_85 : decode cX3_findPlaces 85 = .ok (.ifCond .eq 18, 3) := by decide +kernel
theorem dX3_findPlaces_88 : decode cX3_findPlaces 88 = .ok (.aload_n 0, 1) := by decide +kernel
theorem dX3_findPlaces_89 : decode cX3_findPlaces 89 = .ok (.iload_n 1, 1) := by decide +kernel
theorem dX3_findPlaces_90 : decode cX3_findPlaces 90 = .ok (.iload 4, 2) := by decide +kernel
theorem dX3_findPlaces_92 : decode cX3_findPlaces 92 = .ok (.iload 5, 2) := by decide +kernel
theorem dX3_findPlaces_94 : decode cX3_findPlaces 94 = .ok (.invokevirtual 52, 3) := by decide +kernel
theorem dX3_findPlaces_97 : decode cX3_findPlaces 97 = .ok (.ifCond .eq 18, 3) := by decide +kernel
theorem dX3_findPlaces_100 : decode cX3_findPlaces 100 = .ok (.goto 7, 3) := by decide +kernel
theorem dX3_findPlaces_103 : decode cX3_findPlaces 103 = .ok (.iload_n 3, 1) := by decide +kernel
theorem dX3_findPlaces_104 : decode cX3_findPlaces 104 = .ok (.ifCond .eq 11, 3) := by decide +kernel
theorem dX3_findPlaces_107 : decode cX3_findPlaces 107 = .ok (.aload_n 0, 1) := by decide +kernel
theorem dX3_findPlaces_108 : decode cX3_findPlaces 108 = .ok (.iload 4, 2) := by decide +kernel
theorem dX3_findPlaces_110 : decode cX3_findPlaces 110 = .ok (.iload 5, 2) := by decide +kernel
theorem dX3_findPlaces_112 : decode cX3_findPlaces 112 = .ok (.invokevirtual 60, 3) := by decide +kernel
theorem dX3_findPlaces_115 : decode cX3_findPlaces 115 = .ok (.iinc 5 1, 3) := by decide +kernel
theorem dX3_findPlaces_118 : decode cX3_findPlaces 118 = .ok (.goto (-48), 3) := by decide +kernel
theorem dX3_findPlaces_121 : decode cX3_findPlaces 121 = .ok (.iinc 4 1, 3) := by decide +kernel
theorem dX3_findPlaces_124 : decode cX3_findPlaces 124 = .ok (.goto (-64), 3) := by decide +kernel
theorem dX3_findPlaces_127 : decode cX3_findPlaces 127 = .ok (.aload_n 0, 1) := by decide +kernel
theorem dX3_findPlaces_128 : decode cX3_findPlaces 128 = .ok (.iload_n 1, 1) := by decide +kernel
theorem dX3_findPlaces_129 : decode cX3_findPlaces 129 = .ok (.bipush 41, 2) := by decide +kernel
theorem dX3_findPlaces_131 : decode cX3_findPlaces 131 = .ok (.bipush 41, 2) := by decide +kernel
theorem dX3_findPlaces_133 : decode cX3_findPlaces 133 = .ok (.invokevirtual 52, 3) := by decide +kernel
theorem dX3_findPlaces_136 : decode cX3_findPlaces 136 = .ok (.ifCond .eq 11, 3) := by decide +kernel
theorem dX3_findPlaces_139 : decode cX3_findPlaces 139 = .ok (.aload_n 0, 1) := by decide +kernel
theorem dX3_findPlaces_140 : decode cX3_findPlaces 140 = .ok (.bipush 41, 2) := by decide +kernel
theorem dX3_findPlaces_142 : decode cX3_findPlaces 142 = .ok (.bipush 41, 2) := by decide +kernel
theorem dX3_findPlaces_144 : decode cX3_findPlaces 144 = .ok (.invokevirtual 60, 3) := by decide +kernel
theorem dX3_findPlaces_147 : decode cX3_findPlaces 147 = .ok (.return_, 1) := by decide +kernel
theorem dX3_isNearWritten_0 : decode cX3_isNearWritten 0 = .ok (.iconst 0, 1) := by decide +kernel
theorem dX3_isNearWritten_1 : decode cX3_isNearWritten 1 = .ok (.istore_n 3, 1) := by decide +kernel
theorem dX3_isNearWritten_2 : decode cX3_isNearWritten 2 = .ok (.iload_n 3, 1) := by decide +kernel
theorem dX3_isNearWritten_3 : decode cX3_isNearWritten 3 = .ok (.aload_n 0, 1) := by decide +kernel
theorem dX3_isNearWritten_4 : decode cX3_isNearWritten 4 = .ok (.getfield 21, 3) := by decide +kernel
theorem dX3_isNearWritten_7 : decode cX3_isNearWritten 7 = .ok (.if_icmp .ge 38, 3) := by decide +kernel
theorem dX3_isNearWritten_10 : decode cX3_isNearWritten 10 = .ok (.iload_n 3, 1) := by decide +kernel
theorem dX3_isNearWritten_11 : decode cX3_isNearWritten 11 = .ok (.bipush 24, 2) := by decide +kernel
theorem dX3_isNearWritten_13 : decode cX3_isNearWritten 13 = .ok (.if_icmp .ge 32, 3) := by decide +kernel
theorem dX3_isNearWritten_16 : decode cX3_isNearWritten 16 = .ok (.iload_n 1, 1) := by decide +kernel
theorem dX3_isNearWritten_17 : decode cX3_isNearWritten 17 = .ok (.iload_n 2, 1) := by decide +kernel
theorem dX3_isNearWritten_18 : decode cX3_isNearWritten 18 = .ok (.aload_n 0, 1) := by decide +kernel
theorem dX3_isNearWritten_19 : decode cX3_isNearWritten 19 = .ok (.getfield 15, 3) := by decide +kernel
theorem dX3_isNearWritten_22 : decode cX3_isNearWritten 22 = .ok (.iload_n 3, 1) := by decide +kernel
theorem dX3_isNearWritten_23 : decode cX3_isNearWritten 23 = .ok (.iaload, 1) := by decide +kernel
theorem dX3_isNearWritten_24 : decode cX3_isNearWritten 24 = .ok (.aload_n 0, 1) := by decide +kernel
theorem dX3_isNearWritten_25 : decode cX3_isNearWritten 25 = .ok (.getfield 18, 3) := by decide +kernel
theorem dX3_isNearWritten_28 : decode cX3_isNearWritten 28 = .ok (.iload_n 3, 1) := by decide +kernel
theorem dX3_isNearWritten_29 : decode cX3_isNearWritten 29 = .ok (.iaload, 1) := by decide +kernel
theorem dX3_isNearWritten_30 : decode cX3_isNearWritten 30 = .ok (.invokestatic 64, 3) := by decide +kernel
theorem dX3_isNearWritten_33 : decode cX3_isNearWritten 33 = .ok (.iconst 4, 1) := by decide +kernel
theorem dX3_isNearWritten_34 : decode cX3_isNearWritten 34 = .ok (.if_icmp .ge 5, 3) := by decide +kernel
theorem dX3_isNearWritten_37 : decode cX3_isNearWritten 37 = .ok (.iconst 1, 1) := by decide +kernel
theorem dX3_isNearWritten_38 : decode cX3_isNearWritten 38 = .ok (.ireturn, 1) := by decide +kernel
theorem dX3_isNearWritten_39 : decode cX3_isNearWritten 39 = .ok (.iinc 3 1, 3) := by decide +kernel
theorem dX3_isNearWritten_42 : decode cX3_isNearWritten 42 = .ok (.goto (-40), 3) := by decide +kernel
theorem dX3_isNearWritten_45 : decode cX3_isNearWritten 45 = .ok (.iconst 0, 1) := by decide +kernel
theorem dX3_isNearWritten_46 : decode cX3_isNearWritten 46 = .ok (.ireturn, 1) := by decide +kernel
theorem dX3_canComeTo_0 : decode cX3_canComeTo 0 = .ok (.aload_n 0, 1) := by decide +kernel
theorem dX3_canComeTo_1 : decode cX3_canComeTo 1 = .ok (.getfield 41, 3) := by decide +kernel
theorem dX3_canComeTo_4 : decode cX3_canComeTo 4 = .ok (.aload_n 0, 1) := by decide +kernel
theorem dX3_canComeTo_5 : decode cX3_canComeTo 5 = .ok (.getfield 37, 3) := by decide +kernel
theorem dX3_canComeTo_8 : decode cX3_canComeTo 8 = .ok (.invokevirtual 68, 3) := by decide +kernel
theorem dX3_canComeTo_11 : decode cX3_canComeTo 11 = .ok (.aload_n 0, 1) := by decide +kernel
theorem dX3_canComeTo_12 : decode cX3_canComeTo 12 = .ok (.getfield 41, 3) := by decide +kernel
theorem dX3_canComeTo_15 : decode cX3_canComeTo 15 = .ok (.aload_n 0, 1) := by decide +kernel
theorem dX3_canComeTo_16 : decode cX3_canComeTo 16 = .ok (.getfield 9, 3) := by decide +kernel
theorem dX3_canComeTo_19 : decode cX3_canComeTo 19 = .ok (.iload_n 1, 1) := by decide +kernel
theorem dX3_canComeTo_20 : decode cX3_canComeTo 20 = .ok (.iaload, 1) := by decide +kernel
theorem dX3_canComeTo_21 : decode cX3_canComeTo 21 = .ok (.iload_n 2, 1) := by decide +kernel
theorem dX3_canComeTo_22 : decode cX3_canComeTo 22 = .ok (.iload_n 3, 1) := by decide +kernel
theorem dX3_canComeTo_23 : decode cX3_canComeTo 23 = .ok (.invokevirtual 72, 3) := by decide +kernel
theorem dX3_canComeTo_26 : decode cX3_canComeTo 26 = .ok (.ifCond .eq 27, 3) := by decide +kernel
theorem dX3_canComeTo_29 : decode cX3_canComeTo 29 = .ok (.aload_n 0, 1) := by decide +kernel
theorem dX3_canComeTo_30 : decode cX3_canComeTo 30 = .ok (.aload_n 0, 1) := by decide +kernel
theorem dX3_canComeTo_31 : decode cX3_canComeTo 31 = .ok (.getfield 41, 3) := by decide +kernel
theorem dX3_canComeTo_34 : decode cX3_canComeTo 34 = .ok (.iload_n 1, 1) := by decide +kernel
theorem dX3_canComeTo_35 : decode cX3_canComeTo 35 = .ok (.iconst 1, 1) := by decide +kernel
theorem dX3_canComeTo_36 : decode cX3_canComeTo 36 = .ok (.iadd, 1) := by decide +kernel
theorem dX3_canComeTo_37 : decode cX3_canComeTo 37 = .ok (.aload_n 0, 1) := by decide +kernel
theorem dX3_canComeTo_38 : decode cX3_canComeTo 38 = .ok (.getfield 21, 3) := by decide +kernel
theorem dX3_canComeTo_41 : decode cX3_canComeTo 41 = .ok (.invokevirtual 48, 3) := by decide +kernel
theorem dX3_canComeTo_44 : decode cX3_canComeTo 44 = .ok (.bipush (-4), 2) := by decide +kernel
theorem dX3_canComeTo_46 : decode cX3_canComeTo 46 = .ok (.if_icmp .ne 7, 3) := by decide +kernel
theorem dX3_canComeTo_49 : decode cX3_canComeTo 49 = .ok (.iconst 1, 1) := by decide +kernel
theorem dX3_canComeTo_50 : decode cX3_canComeTo 50 = .ok (.goto 4, 3) := by decide +kernel
theorem dX3_canComeTo_53 : decode cX3_canComeTo 53 = .ok (.iconst 0, 1) := by decide +kernel
theorem dX3_canComeTo_54 : decode cX3_canComeTo 54 = .ok (.ireturn, 1) := by decide +kernel
theorem dX3_countPlace_0 : decode cX3_countPlace 0 = .ok (.aload_n 0, 1) := by decide +kernel
theorem dX3_countPlace_1 : decode cX3_countPlace 1 = .ok (.getfield 25, 3) := by decide +kernel
theorem dX3_countPlace_4 : decode cX3_countPlace 4 = .ok (.ifCond .ne 13, 3) := by decide +kernel
theorem dX3_countPlace_7 : decode cX3_countPlace 7 = .ok (.aload_n 0, 1) := by decide +kernel
theorem dX3_countPlace_8 : decode cX3_countPlace 8 = .ok (.bipush 100, 2) := by decide +kernel
theorem dX3_countPlace_10 : decode cX3_countPlace 10 = .ok (.iload_n 1, 1) := by decide +kernel
theorem dX3_countPlace_11 : decode cX3_countPlace 11 = .ok (.imul, 1) := by decide +kernel
theorem dX3_countPlace_12 : decode cX3_countPlace 12 = .ok (.iload_n 2, 1) := by decide +kernel
theorem dX3_countPlace_13 : decode cX3_countPlace 13 = .ok (.iadd, 1) := by decide +kernel
theorem dX3_countPlace_14 : decode cX3_countPlace 14 = .ok (.putfield 28, 3) := by decide +kernel
theorem dX3_countPlace_17 : decode cX3_countPlace 17 = .ok (.aload_n 0, 1) := by decide +kernel
theorem dX3_countPlace_18 : decode cX3_countPlace 18 = .ok (.dup, 1) := by decide +kernel
theorem dX3_countPlace_19 : decode cX3_countPlace 19 = .ok (.getfield 25, 3) := by decide +kernel
theorem dX3_countPlace_22 : decode cX3_countPlace 22 = .ok (.iconst 1, 1) := by decide +kernel
theorem dX3_countPlace_23 : decode cX3_countPlace 23 = .ok (.iadd, 1) := by decide +kernel
theorem dX3_countPlace_24 : decode cX3_countPlace 24 = .ok (.putfield 25, 3) := by decide +kernel
theorem dX3_countPlace_27 : decode cX3_countPlace 27 = .ok (.return_, 1) := by decide +kernel
theorem dX3_startOver_0 : decode cX3_startOver 0 = .ok (.aload_n 0, 1) := by decide +kernel
theorem dX3_startOver_1 : decode cX3_startOver 1 = .ok (.invokevirtual 75, 3) := by decide +kernel
theorem dX3_startOver_4 : decode cX3_startOver 4 = .ok (.aload_n 0, 1) := by decide +kernel
theorem dX3_startOver_5 : decode cX3_startOver 5 = .ok (.iload_n 1, 1) := by decide +kernel
theorem dX3_startOver_6 : decode cX3_startOver 6 = .ok (.putfield 78, 3) := by decide +kernel
theorem dX3_startOver_9 : decode cX3_startOver 9 = .ok (.return_, 1) := by decide +kernel
theorem dX3_firstWrongIn_0 : decode cX3_firstWrongIn 0 = .ok (.iload_n 2, 1) := by decide +kernel
theorem dX3_firstWrongIn_1 : decode cX3_firstWrongIn 1 = .ok (.istore 4, 2) := by decide +kernel
theorem dX3_firstWrongIn_3 : decode cX3_firstWrongIn 3 = .ok (.iload 4, 2) := by decide +kernel
theorem dX3_firstWrongIn_5 : decode cX3_firstWrongIn 5 = .ok (.iload_n 3, 1) := by decide +kernel
theorem dX3_firstWrongIn_6 : decode cX3_firstWrongIn 6 = .ok (.if_icmp .ge 47, 3) := by decide +kernel
theorem dX3_firstWrongIn_9 : decode cX3_firstWrongIn 9 = .ok (.iload 4, 2) := by decide +kernel
theorem dX3_firstWrongIn_11 : decode cX3_firstWrongIn 11 = .ok (.bipush 24, 2) := by decide +kernel
theorem dX3_firstWrongIn_13 : decode cX3_firstWrongIn 13 = .ok (.if_icmp .ge 40, 3) := by decide +kernel
theorem dX3_firstWrongIn_16 : decode cX3_firstWrongIn 16 = .ok (.aload_n 1, 1) := by decide +kernel
theorem dX3_firstWrongIn_17 : decode cX3_firstWrongIn 17 = .ok (.aload_n 0, 1) := by decide +kernel
theorem dX3_firstWrongIn_18 : decode cX3_firstWrongIn 18 = .ok (.getfield 9, 3) := by decide +kernel
theorem dX3_firstWrongIn_21 : decode cX3_firstWrongIn 21 = .ok (.iload 4, 2) := by decide +kernel
theorem dX3_firstWrongIn_23 : decode cX3_firstWrongIn 23 = .ok (.iaload, 1) := by decide +kernel
theorem dX3_firstWrongIn_24 : decode cX3_firstWrongIn 24 = .ok (.aload_n 0, 1) := by decide +kernel
theorem dX3_firstWrongIn_25 : decode cX3_firstWrongIn 25 = .ok (.getfield 15, 3) := by decide +kernel
theorem dX3_firstWrongIn_28 : decode cX3_firstWrongIn 28 = .ok (.iload 4, 2) := by decide +kernel
theorem dX3_firstWrongIn_30 : decode cX3_firstWrongIn 30 = .ok (.iaload, 1) := by decide +kernel
theorem dX3_firstWrongIn_31 : decode cX3_firstWrongIn 31 = .ok (.aload_n 0, 1) := by decide +kernel
theorem dX3_firstWrongIn_32 : decode cX3_firstWrongIn 32 = .ok (.getfield 18, 3) := by decide +kernel
theorem dX3_firstWrongIn_35 : decode cX3_firstWrongIn 35 = .ok (.iload 4, 2) := by decide +kernel
theorem dX3_firstWrongIn_37 : decode cX3_firstWrongIn 37 = .ok (.iaload, 1) := by decide +kernel
theorem dX3_firstWrongIn_38 : decode cX3_firstWrongIn 38 = .ok (.invokevirtual 72, 3) := by decide +kernel
theorem dX3_firstWrongIn_41 : decode cX3_firstWrongIn 41 = .ok (.ifCond .ne 6, 3) := by decide +kernel
theorem dX3_firstWrongIn_44 : decode cX3_firstWrongIn 44 = .ok (.iload 4, 2) := by decide +kernel
theorem dX3_firstWrongIn_46 : decode cX3_firstWrongIn 46 = .ok (.ireturn, 1) := by decide +kernel
theorem dX3_firstWrongIn_47 : decode cX3_firstWrongIn 47 = .ok (.iinc 4 1, 3) := by decide +kernel
theorem dX3_firstWrongIn_50 : decode cX3_firstWrongIn 50 = .ok (.goto (-47), 3) := by decide +kernel
theorem dX3_firstWrongIn_53 : decode cX3_firstWrongIn 53 = .ok (.bipush (-4), 2) := by decide +kernel
theorem dX3_firstWrongIn_55 : decode cX3_firstWrongIn 55 = .ok (.ireturn, 1) := by decide +kernel
theorem dX4_init_0 : decode cX4_init 0 = .ok (.aload_n 0, 1) := by decide +kernel
theorem dX4_init_1 : decode cX4_init 1 = .ok (.invokespecial 3, 3) := by decide +kernel
theorem dX4_init_4 : decode cX4_init 4 = .ok (.aload_n 0, 1) := by decide +kernel
theorem dX4_init_5 : decode cX4_init 5 = .ok (.bipush 20, 2) := by decide +kernel
theorem dX4_init_7 : decode cX4_init 7 = .ok (.newarray .int, 2) := by decide +kernel
theorem dX4_init_9 : decode cX4_init 9 = .ok (.putfield 9, 3) := by decide +kernel
theorem dX4_init_12 : decode cX4_init 12 = .ok (.aload_n 0, 1) := by decide +kernel
theorem dX4_init_13 : decode cX4_init 13 = .ok (.bipush 20, 2) := by decide +kernel
theorem dX4_init_15 : decode cX4_init 15 = .ok (.newarray .int, 2) := by decide +kernel
theorem dX4_init_17 : decode cX4_init 17 = .ok (.putfield 15, 3) := by decide +kernel
theorem dX4_init_20 : decode cX4_init 20 = .ok (.aload_n 0, 1) := by decide +kernel
theorem dX4_init_21 : decode cX4_init 21 = .ok (.iconst 4, 1) := by decide +kernel
theorem dX4_init_22 : decode cX4_init 22 = .ok (.newarray .int, 2) := by decide +kernel
theorem dX4_init_24 : decode cX4_init 24 = .ok (.putfield 18, 3) := by decide +kernel
theorem dX4_init_27 : decode cX4_init 27 = .ok (.return_, 1) := by decide +kernel
theorem dX4_add_0 : decode cX4_add 0 = .ok (.aload_n 0, 1) := by decide +kernel
theorem dX4_add_1 : decode cX4_add 1 = .ok (.getfield 18, 3) := by decide +kernel
theorem dX4_add_4 : decode cX4_add 4 = .ok (.iload_n 1, 1) := by decide +kernel
theorem dX4_add_5 : decode cX4_add 5 = .ok (.iaload, 1) := by decide +kernel
theorem dX4_add_6 : decode cX4_add 6 = .ok (.sipush 1000, 3) := by decide +kernel
theorem dX4_add_9 : decode cX4_add 9 = .ok (.if_icmp .lt 6, 3) := by decide +kernel
theorem dX4_add_12 : decode cX4_add 12 = .ok (.bipush (-3), 2) := by decide +kernel
theorem dX4_add_14 : decode cX4_add 14 = .ok (.ireturn, 1) := by decide +kernel
theorem dX4_add_15 : decode cX4_add 15 = .ok (.iconst 4, 1) := by decide +kernel
theorem dX4_add_16 : decode cX4_add 16 = .ok (.iload_n 2, 1) := by decide +kernel
theorem dX4_add_17 : decode cX4_add 17 = .ok (.bipush 8, 2) := by decide +kernel
theorem dX4_add_19 : decode cX4_add 19 = .ok (.idiv, 1) := by decide +kernel
theorem dX4_add_20 : decode cX4_add 20 = .ok (.invokestatic 21, 3) := by decide +kernel
theorem dX4_add_23 : decode cX4_add 23 = .ok (.istore 4, 2) := by decide +kernel
theorem dX4_add_25 : decode cX4_add 25 = .ok (.aload_n 0, 1) := by decide +kernel
theorem dX4_add_26 : decode cX4_add 26 = .ok (.getfield 9, 3) := by decide +kernel
theorem dX4_add_29 : decode cX4_add 29 = .ok (.iload_n 1, 1) := by decide +kernel
theorem dX4_add_30 : decode cX4_add 30 = .ok (.iconst 5, 1) := by decide +kernel
theorem dX4_add_31 : decode cX4_add 31 = .ok (.imul, 1) := by decide +kernel
theorem dX4_add_32 : decode cX4_add 32 = .ok (.iload 4, 2) := by decide +kernel
theorem dX4_add_34 : decode cX4_add 34 = .ok (.iadd, 1) := by decide +kernel
theorem dX4_add_35 : decode cX4_add 35 = .ok (.dup2, 1) := by decide +kernel
theorem dX4_add_36 : decode cX4_add 36 = .ok (.iaload, 1) := by decide +kernel
theorem dX4_add_37 : decode cX4_add 37 = .ok (.iconst 1, 1) := by decide +kernel
theorem dX4_add_38 : decode cX4_add 38 = .ok (.iadd, 1) := by decide +kernel
theorem dX4_add_39 : decode cX4_add 39 = .ok (.iastore, 1) := by decide +kernel
theorem dX4_add_40 : decode cX4_add 40 = .ok (.aload_n 0, 1) := by decide +kernel
theorem dX4_add_41 : decode cX4_add 41 = .ok (.getfield 15, 3) := by decide +kernel
theorem dX4_add_44 : decode cX4_add 44 = .ok (.iload_n 1, 1) := by decide +kernel
theorem dX4_add_45 : decode cX4_add 45 = .ok (.iconst 5, 1) := by decide +kernel
theorem dX4_add_46 : decode cX4_add 46 = .ok (.imul, 1) := by decide +kernel
theorem dX4_add_47 : decode cX4_add 47 = .ok (.iload 4, 2) := by decide +kernel
theorem dX4_add_49 : decode cX4_add 49 = .ok (.iadd, 1) := by decide +kernel
theorem dX4_add_50 : decode cX4_add 50 = .ok (.dup2, 1) := by decide +kernel
theorem dX4_add_51 : decode cX4_add 51 = .ok (.iaload, 1) := by decide +kernel
theorem dX4_add_52 : decode cX4_add 52 = .ok (.iload_n 3, 1) := by decide +kernel
theorem dX4_add_53 : decode cX4_add 53 = .ok (.iadd, 1) := by decide +kernel
theorem dX4_add_54 : decode cX4_add 54 = .ok (.iastore, 1) := by decide +kernel
theorem dX4_add_55 : decode cX4_add 55 = .ok (.aload_n 0, 1) := by decide +kernel
theorem dX4_add_56 : decode cX4_add 56 = .ok (.getfield 18, 3) := by decide +kernel
theorem dX4_add_59 : decode cX4_add 59 = .ok (.iload_n 1, 1) := by decide +kernel
theorem dX4_add_60 : decode cX4_add 60 = .ok (.dup2, 1) := by decide +kernel
theorem dX4_add_61 : decode cX4_add 61 = .ok (.iaload, 1) := by decide +kernel
theorem dX4_add_62 : decode cX4_add 62 = .ok (.iconst 1, 1) := by decide +kernel
theorem dX4_add_63 : decode cX4_add 63 = .ok (.iadd, 1) := by decide +kernel
theorem dX4_add_64 : decode cX4_add 64 = .ok (.iastore, 1) := by decide +kernel
theorem dX4_add_65 : decode cX4_add 65 = .ok (.aload_n 0, 1) := by decide +kernel
theorem dX4_add_66 : decode cX4_add 66 = .ok (.getfield 18, 3) := by decide +kernel
theorem dX4_add_69 : decode cX4_add 69 = .ok (.iload_n 1, 1) := by decide +kernel
theorem dX4_add_70 : decode cX4_add 70 = .ok (.iaload, 1) := by decide +kernel
theorem dX4_add_71 : decode cX4_add 71 = .ok (.ireturn, 1) := by decide +kernel
theorem dX4_tell_0 : decode cX4_tell 0 = .ok (.aload_n 0, 1) := by decide +kernel
theorem dX4_tell_1 : decode cX4_tell 1 = .ok (.getfield 9, 3) := by decide +kernel
theorem dX4_tell_4 : decode cX4_tell 4 = .ok (.iload_n 1, 1) := by decide +kernel
theorem dX4_tell_5 : decode cX4_tell 5 = .ok (.iconst 5, 1) := by decide +kernel
theorem dX4_tell_6 : decode cX4_tell 6 = .ok (.imul, 1) := by decide +kernel
theorem dX4_tell_7 : decode cX4_tell 7 = .ok (.iload_n 2, 1) := by decide +kernel
theorem dX4_tell_8 : decode cX4_tell 8 = .ok (.iadd, 1) := by decide +kernel
theorem dX4_tell_9 : decode cX4_tell 9 = .ok (.iaload, 1) := by decide +kernel
theorem dX4_tell_10 : decode cX4_tell 10 = .ok (.istore 4, 2) := by decide +kernel
theorem dX4_tell_12 : decode cX4_tell 12 = .ok (.aload_n 0, 1) := by decide +kernel
theorem dX4_tell_13 : decode cX4_tell 13 = .ok (.getfield 15, 3) := by decide +kernel
theorem dX4_tell_16 : decode cX4_tell 16 = .ok (.iload_n 1, 1) := by decide +kernel
theorem dX4_tell_17 : decode cX4_tell 17 = .ok (.iconst 5, 1) := by decide +kernel
theorem dX4_tell_18 : decode cX4_tell 18 = .ok (.imul, 1) := by decide +kernel
theorem dX4_tell_19 : decode cX4_tell 19 = .ok (.iload_n 2, 1) := by decide +kernel
theorem dX4_tell_20 : decode cX4_tell 20 = .ok (.iadd, 1) := by decide +kernel
theorem dX4_tell_21 : decode cX4_tell 21 = .ok (.iaload, 1) := by decide +kernel
theorem dX4_tell_22 : decode cX4_tell 22 = .ok (.istore 5, 2) := by decide +kernel
theorem dX4_tell_24 : decode cX4_tell 24 = .ok (.iload_n 3, 1) := by decide +kernel
theorem dX4_tell_25 : decode cX4_tell 25 = .ok (.iconst 2, 1) := by decide +kernel
theorem dX4_tell_26 : decode cX4_tell 26 = .ok (.if_icmp .ne 6, 3) := by decide +kernel
theorem dX4_tell_29 : decode cX4_tell 29 = .ok (.iload 4, 2) := by decide +kernel
theorem dX4_tell_31 : decode cX4_tell 31 = .ok (.ireturn, 1) := by decide +kernel
theorem dX4_tell_32 : decode cX4_tell 32 = .ok (.iload 5, 2) := by decide +kernel
theorem dX4_tell_34 : decode cX4_tell 34 = .ok (.iload 4, 2) := by decide +kernel
theorem dX4_tell_36 : decode cX4_tell 36 = .ok (.invokestatic 27, 3) := by decide +kernel
theorem dX4_tell_39 : decode cX4_tell 39 = .ok (.istore 6, 2) := by decide +kernel
theorem dX4_tell_41 : decode cX4_tell 41 = .ok (.iload 4, 2) := by decide +kernel
theorem dX4_tell_43 : decode cX4_tell 43 = .ok (.ifCond .eq 8, 3) := by decide +kernel
theorem dX4_tell_46 : decode cX4_tell 46 = .ok (.iload 6, 2) := by decide +kernel
theorem dX4_tell_48 : decode cX4_tell 48 = .ok (.ifCond .ne 6, 3) := by decide +kernel
theorem dX4_tell_51 : decode cX4_tell 51 = .ok (.bipush (-2), 2) := by decide +kernel
theorem dX4_tell_53 : decode cX4_tell 53 = .ok (.ireturn, 1) := by decide +kernel
theorem dX4_tell_54 : decode cX4_tell 54 = .ok (.iload_n 3, 1) := by decide +kernel
theorem dX4_tell_55 : decode cX4_tell 55 = .ok (.ifCond .ne 8, 3) := by decide +kernel
theorem dX4_tell_58 : decode cX4_tell 58 = .ok (.iload 5, 2) := by decide +kernel
theorem dX4_tell_60 : decode cX4_tell 60 = .ok (.goto 5, 3) := by decide +kernel
theorem dX4_tell_63 : decode cX4_tell 63 = .ok (.iload 4, 2) := by decide +kernel
theorem dX4_tell_65 : decode cX4_tell 65 = .ok (.iload 6, 2) := by decide +kernel
theorem dX4_tell_67 : decode cX4_tell 67 = .ok (.idiv, 1) := by decide +kernel
theorem dX4_tell_68 : decode cX4_tell 68 = .ok (.ireturn, 1) := by decide +kernel
theorem dX4_commonDivisor_0 : decode cX4_commonDivisor 0 = .ok (.iload_n 0, 1) := by decide +kernel
theorem dX4_commonDivisor_1 : decode cX4_commonDivisor 1 = .ok (.istore_n 2, 1) := by decide +kernel
theorem dX4_commonDivisor_2 : decode cX4_commonDivisor 2 = .ok (.iload_n 1, 1) := by decide +kernel
theorem dX4_commonDivisor_3 : decode cX4_commonDivisor 3 = .ok (.istore_n 3, 1) := by decide +kernel
theorem dX4_commonDivisor_4 : decode cX4_commonDivisor 4 = .ok (.iconst 0, 1) := by decide +kernel
theorem dX4_commonDivisor_5 : decode cX4_commonDivisor 5 = .ok (.istore 4, 2) := by decide +kernel
theorem dX4_commonDivisor_7 : decode cX4_commonDivisor 7 = .ok (.iload 4, 2) := by decide +kernel
theorem dX4_commonDivisor_9 : decode cX4_commonDivisor 9 = .ok (.bipush 100, 2) := by decide +kernel
theorem dX4_commonDivisor_11 : decode cX4_commonDivisor 11 = .ok (.if_icmp .ge 23, 3) := by decide +kernel
theorem dX4_commonDivisor_14 : decode cX4_commonDivisor 14 = .ok (.iload_n 3, 1) := by decide +kernel
theorem dX4_commonDivisor_15 : decode cX4_commonDivisor 15 = .ok (.ifCond .eq 19, 3) := by decide +kernel
theorem dX4_commonDivisor_18 : decode cX4_commonDivisor 18 = .ok (.iload_n 2, 1) := by decide +kernel
theorem dX4_commonDivisor_19 : decode cX4_commonDivisor 19 = .ok (.iload_n 3, 1) := by decide +kernel
theorem dX4_commonDivisor_20 : decode cX4_commonDivisor 20 = .ok (.irem, 1) := by decide +kernel
theorem dX4_commonDivisor_21 : decode cX4_commonDivisor 21 = .ok (.istore 5, 2) := by decide +kernel
theorem dX4_commonDivisor_23 : decode cX4_commonDivisor 23 = .ok (.iload_n 3, 1) := by decide +kernel
theorem dX4_commonDivisor_24 : decode cX4_commonDivisor 24 = .ok (.istore_n 2, 1) := by decide +kernel
theorem dX4_commonDivisor_25 : decode cX4_commonDivisor 25 = .ok (.iload 5, 2) := by decide +kernel
theorem dX4_commonDivisor_27 : decode cX4_commonDivisor 27 = .ok (.istore_n 3, 1) := by decide +kernel
theorem dX4_commonDivisor_28 : decode cX4_commonDivisor 28 = .ok (.iinc 4 1, 3) := by decide +kernel
theorem dX4_commonDivisor_31 : decode cX4_commonDivisor 31 = .ok (.goto (-24), 3) := by decide +kernel
theorem dX4_commonDivisor_34 : decode cX4_commonDivisor 34 = .ok (.iload_n 2, 1) := by decide +kernel
theorem dX4_commonDivisor_35 : decode cX4_commonDivisor 35 = .ok (.ireturn, 1) := by decide +kernel
theorem dX5_init_0 : decode cX5_init 0 = .ok (.aload_n 0, 1) := by decide +kernel
theorem dX5_init_1 : decode cX5_init 1 = .ok (.invokespecial 1, 3) := by decide +kernel
theorem dX5_init_4 : decode cX5_init 4 = .ok (.aload_n 0, 1) := by decide +kernel
theorem dX5_init_5 : decode cX5_init 5 = .ok (.new 7, 3) := by decide +kernel
theorem dX5_init_8 : decode cX5_init 8 = .ok (.dup, 1) := by decide +kernel
theorem dX5_init_9 : decode cX5_init 9 = .ok (.invokespecial 9, 3) := by decide +kernel
theorem dX5_init_12 : decode cX5_init 12 = .ok (.putfield 10, 3) := by decide +kernel
theorem dX5_init_15 : decode cX5_init 15 = .ok (.aload_n 0, 1) := by decide +kernel
theorem dX5_init_16 : decode cX5_init 16 = .ok (.new 16, 3) := by decide +kernel
theorem dX5_init_19 : decode cX5_init 19 = .ok (.dup, 1) := by decide +kernel
theorem dX5_init_20 : decode cX5_init 20 = .ok (.invokespecial 18, 3) := by decide +kernel
theorem dX5_init_23 : decode cX5_init 23 = .ok (.putfield 19, 3) := by decide +kernel
theorem dX5_init_26 : decode cX5_init 26 = .ok (.aload_n 0, 1) := by decide +kernel
theorem dX5_init_27 : decode cX5_init 27 = .ok (.new 23, 3) := by decide +kernel
theorem dX5_init_30 : decode cX5_init 30 = .ok (.dup, 1) := by decide +kernel
theorem dX5_init_31 : decode cX5_init 31 = .ok (.invokespecial 25, 3) := by decide +kernel
theorem dX5_init_34 : decode cX5_init 34 = .ok (.putfield 26, 3) := by decide +kernel
theorem dX5_init_37 : decode cX5_init 37 = .ok (.aload_n 0, 1) := by decide +kernel
theorem dX5_init_38 : decode cX5_init 38 = .ok (.new 30, 3) := by decide +kernel
theorem dX5_init_41 : decode cX5_init 41 = .ok (.dup, 1) := by decide +kernel
theorem dX5_init_42 : decode cX5_init 42 = .ok (.invokespecial 32, 3) := by decide +kernel
theorem dX5_init_45 : decode cX5_init 45 = .ok (.putfield 33, 3) := by decide +kernel
theorem dX5_init_48 : decode cX5_init 48 = .ok (.aload_n 0, 1) := by decide +kernel
theorem dX5_init_49 : decode cX5_init 49 = .ok (.iconst 3, 1) := by decide +kernel
theorem dX5_init_50 : decode cX5_init 50 = .ok (.anewarray 7, 3) := by decide +kernel
theorem dX5_init_53 : decode cX5_init 53 = .ok (.putfield 37, 3) := by decide +kernel
theorem dX5_init_56 : decode cX5_init 56 = .ok (.aload_n 0, 1) := by decide +kernel
theorem dX5_init_57 : decode cX5_init 57 = .ok (.iconst 0, 1) := by decide +kernel
theorem dX5_init_58 : decode cX5_init 58 = .ok (.putfield 41, 3) := by decide +kernel
theorem dX5_init_61 : decode cX5_init 61 = .ok (.iconst 0, 1) := by decide +kernel
theorem dX5_init_62 : decode cX5_init 62 = .ok (.istore_n 1, 1) := by decide +kernel
theorem dX5_init_63 : decode cX5_init 63 = .ok (.iload_n 1, 1) := by decide +kernel
theorem dX5_init_64 : decode cX5_init 64 = .ok (.iconst 3, 1) := by decide +kernel
theorem dX5_init_65 : decode cX5_init 65 = .ok (.if_icmp .ge 22, 3) := by decide +kernel
theorem dX5_init_68 : decode cX5_init 68 = .ok (.aload_n 0, 1) := by decide +kernel
theorem dX5_init_69 : decode cX5_init 69 = .ok (.getfield 37, 3) := by decide +kernel
theorem dX5_init_72 : decode cX5_init 72 = .ok (.iload_n 1, 1) := by decide +kernel
theorem dX5_init_73 : decode cX5_init 73 = .ok (.new 7, 3) := by decide +kernel
theorem dX5_init_76 : decode cX5_init 76 = .ok (.dup, 1) := by decide +kernel
theorem dX5_init_77 : decode cX5_init 77 = .ok (.invokespecial 9, 3) := by decide +kernel
theorem dX5_init_80 : decode cX5_init 80 = .ok (.aastore, 1) := by decide +kernel
theorem dX5_init_81 : decode cX5_init 81 = .ok (.iinc 1 1, 3) := by decide +kernel
theorem dX5_init_84 : decode cX5_init 84 = .ok (.goto (-21), 3) := by decide +kernel
theorem dX5_init_87 : decode cX5_init 87 = .ok (.return_, 1) := by decide +kernel
theorem dX5_anew_0 : decode cX5_anew 0 = .ok (.aload_n 0, 1) := by decide +kernel
theorem dX5_anew_1 : decode cX5_anew 1 = .ok (.getfield 10, 3) := by decide +kernel
theorem dX5_anew_4 : decode cX5_anew 4 = .ok (.getfield 45, 3) := by decide +kernel
theorem dX5_anew_7 : decode cX5_anew 7 = .ok (.istore_n 1, 1) := by decide +kernel
theorem dX5_anew_8 : decode cX5_anew 8 = .ok (.aload_n 0, 1) := by decide +kernel
theorem dX5_anew_9 : decode cX5_anew 9 = .ok (.getfield 10, 3) := by decide +kernel
theorem dX5_anew_12 : decode cX5_anew 12 = .ok (.invokevirtual 48, 3) := by decide +kernel
theorem dX5_anew_15 : decode cX5_anew 15 = .ok (.iload_n 1, 1) := by decide +kernel
theorem dX5_anew_16 : decode cX5_anew 16 = .ok (.ireturn, 1) := by decide +kernel
theorem dX5_rule_0 : decode cX5_rule 0 = .ok (.iload_n 1, 1) := by decide +kernel
theorem dX5_rule_1 : decode cX5_rule 1 = .ok (.tableswitch 96 0 2 #[27, 49, 71], 27) := by decide +kernel
theorem dX5_rule_28 : decode cX5_rule 28 = .ok (.iload_n 2, 1) := by decide +kernel
theorem dX5_rule_29 : decode cX5_rule 29 = .ok (.iconst 0, 1) := by decide +kernel
theorem dX5_rule_30 : decode cX5_rule 30 = .ok (.iconst 5, 1) := by decide +kernel
theorem dX5_rule_31 : decode cX5_rule 31 = .ok (.invokestatic 51, 3) := by decide +kernel
theorem dX5_rule_34 : decode cX5_rule 34 = .ok (.ifCond .eq 14, 3) := by decide +kernel
theorem dX5_rule_37 : decode cX5_rule 37 = .ok (.aload_n 0, 1) := by decide +kernel
theorem dX5_rule_38 : decode cX5_rule 38 = .ok (.getfield 10, 3) := by decide +kernel
theorem dX5_rule_41 : decode cX5_rule 41 = .ok (.iload_n 2, 1) := by decide +kernel
theorem dX5_rule_42 : decode cX5_rule 42 = .ok (.invokevirtual 55, 3) := by decide +kernel
theorem dX5_rule_45 : decode cX5_rule 45 = .ok (.goto 4, 3) := by decide +kernel
theorem dX5_rule_48 : decode cX5_rule 48 = .ok (.iconst (-1), 1) := by decide +kernel
theorem dX5_rule_49 : decode cX5_rule 49 = .ok (.ireturn, 1) := by decide +kernel
theorem dX5_rule_50 : decode cX5_rule 50 = .ok (.iload_n 2, 1) := by decide +kernel
theorem dX5_rule_51 : decode cX5_rule 51 = .ok (.iconst 0, 1) := by decide +kernel
theorem dX5_rule_52 : decode cX5_rule 52 = .ok (.iconst 5, 1) := by decide +kernel
theorem dX5_rule_53 : decode cX5_rule 53 = .ok (.invokestatic 51, 3) := by decide +kernel
theorem dX5_rule_56 : decode cX5_rule 56 = .ok (.ifCond .eq 14, 3) := by decide +kernel
theorem dX5_rule_59 : decode cX5_rule 59 = .ok (.aload_n 0, 1) := by decide +kernel
theorem dX5_rule_60 : decode cX5_rule 60 = .ok (.getfield 10, 3) := by decide +kernel
theorem dX5_rule_63 : decode cX5_rule 63 = .ok (.iload_n 2, 1) := by decide +kernel
theorem dX5_rule_64 : decode cX5_rule 64 = .ok (.invokevirtual 59, 3) := by decide +kernel
theorem dX5_rule_67 : decode cX5_rule 67 = .ok (.goto 4, 3) := by decide +kernel
theorem dX5_rule_70 : decode cX5_rule 70 = .ok (.iconst (-1), 1) := by decide +kernel
theorem dX5_rule_71 : decode cX5_rule 71 = .ok (.ireturn, 1) := by decide +kernel
theorem dX5_rule_72 : decode cX5_rule 72 = .ok (.iload_n 2, 1) := by decide +kernel
theorem dX5_rule_73 : decode cX5_rule 73 = .ok (.bipush 10, 2) := by decide +kernel
theorem dX5_rule_75 : decode cX5_rule 75 = .ok (.sipush 400, 3) := by decide +kernel
theorem dX5_rule_78 : decode cX5_rule 78 = .ok (.invokestatic 51, 3) := by decide +kernel
theorem dX5_rule_81 : decode cX5_rule 81 = .ok (.ifCond .eq 14, 3) := by decide +kernel
theorem dX5_rule_84 : decode cX5_rule 84 = .ok (.aload_n 0, 1) := by decide +kernel
theorem dX5_rule_85 : decode cX5_rule 85 = .ok (.getfield 10, 3) := by decide +kernel
theorem dX5_rule_88 : decode cX5_rule 88 = .ok (.iload_n 2, 1) := by decide +kernel
theorem dX5_rule_89 : decode cX5_rule 89 = .ok (.invokevirtual 62, 3) := by decide +kernel
theorem dX5_rule_92 : decode cX5_rule 92 = .ok (.goto 4, 3) := by decide +kernel
theorem dX5_rule_95 : decode cX5_rule 95 = .ok (.iconst (-1), 1) := by decide +kernel
theorem dX5_rule_96 : decode cX5_rule 96 = .ok (.ireturn, 1) := by decide +kernel
theorem dX5_rule_97 : decode cX5_rule 97 = .ok (.iconst (-1), 1) := by decide +kernel
theorem dX5_rule_98 : decode cX5_rule 98 = .ok (.ireturn, 1) := by decide +kernel
theorem dX5_seed_0 : decode cX5_seed 0 = .ok (.iload_n 1, 1) := by decide +kernel
theorem dX5_seed_1 : decode cX5_seed 1 = .ok (.iconst 1, 1) := by decide +kernel
theorem dX5_seed_2 : decode cX5_seed 2 = .ok (.if_icmp .lt 12, 3) := by decide +kernel
theorem dX5_seed_5 : decode cX5_seed 5 = .ok (.iload_n 1, 1) := by decide +kernel
theorem dX5_seed_6 : decode cX5_seed 6 = .ok (.i2l, 1) := by decide +kernel
theorem dX5_seed_7 : decode cX5_seed 7 = .ok (.ldc2_w 65, 3) := by decide +kernel
theorem dX5_seed_10 : decode cX5_seed 10 = .ok (.lcmp, 1) := by decide +kernel
theorem dX5_seed_11 : decode cX5_seed 11 = .ok (.ifCond .lt 5, 3) := by decide +kernel
theorem dX5_seed_14 : decode cX5_seed 14 = .ok (.iconst (-1), 1) := by decide +kernel
theorem dX5_seed_15 : decode cX5_seed 15 = .ok (.ireturn, 1) := by decide +kernel
theorem dX5_seed_16 : decode cX5_seed 16 = .ok (.aload_n 0, 1) := by decide +kernel
theorem dX5_seed_17 : decode cX5_seed 17 = .ok (.getfield 10, 3) := by decide +kernel
theorem dX5_seed_20 : decode cX5_seed 20 = .ok (.iload_n 1, 1) := by decide +kernel
theorem dX5_seed_21 : decode cX5_seed 21 = .ok (.i2l, 1) := by decide +kernel
theorem dX5_seed_22 : decode cX5_seed 22 = .ok (.putfield 67, 3) := by decide +kernel
theorem dX5_seed_25 : decode cX5_seed 25 = .ok (.iconst 0, 1) := by decide +kernel
theorem dX5_seed_26 : decode cX5_seed 26 = .ok (.ireturn, 1) := by decide +kernel
theorem dX5_put_0 : decode cX5_put 0 = .ok (.iload_n 1, 1) := by decide +kernel
theorem dX5_put_1 : decode cX5_put 1 = .ok (.invokestatic 71, 3) := by decide +kernel
theorem dX5_put_4 : decode cX5_put 4 = .ok (.ifCond .eq 11, 3) := by decide +kernel
theorem dX5_put_7 : decode cX5_put 7 = .ok (.iload_n 2, 1) := by decide +kernel
theorem dX5_put_8 : decode cX5_put 8 = .ok (.iload_n 3, 1) := by decide +kernel
theorem dX5_put_9 : decode cX5_put 9 = .ok (.invokestatic 75, 3) := by decide +kernel
theorem dX5_put_12 : decode cX5_put 12 = .ok (.ifCond .ne 5, 3) := by decide +kernel
theorem dX5_put_15 : decode cX5_put 15 = .ok (.iconst (-1), 1) := by decide +kernel
theorem dX5_put_16 : decode cX5_put 16 = .ok (.ireturn, 1) := by decide +kernel
theorem dX5_put_17 : decode cX5_put 17 = .ok (.aload_n 0, 1) := by decide +kernel
theorem dX5_put_18 : decode cX5_put 18 = .ok (.getfield 10, 3) := by decide +kernel
theorem dX5_put_21 : decode cX5_put 21 = .ok (.getfield 79, 3) := by decide +kernel
theorem dX5_put_24 : decode cX5_put 24 = .ok (.iload_n 1, 1) := by decide +kernel
theorem dX5_put_25 : decode cX5_put 25 = .ok (.iload_n 2, 1) := by decide +kernel
theorem dX5_put_26 : decode cX5_put 26 = .ok (.iload_n 3, 1) := by decide +kernel
theorem dX5_put_27 : decode cX5_put 27 = .ok (.invokevirtual 83, 3) := by decide +kernel
theorem dX5_put_30 : decode cX5_put 30 = .ok (.aload_n 0, 1) := by decide +kernel
theorem dX5_put_31 : decode cX5_put 31 = .ok (.getfield 10, 3) := by decide +kernel
theorem dX5_put_34 : decode cX5_put 34 = .ok (.invokevirtual 89, 3) := by decide +kernel
theorem dX5_put_37 : decode cX5_put 37 = .ok (.iconst 0, 1) := by decide +kernel
theorem dX5_put_38 : decode cX5_put 38 = .ok (.ireturn, 1) := by decide +kernel
theorem dX5_about_0 : decode cX5_about 0 = .ok (.iload_n 1, 1) := by decide +kernel
theorem dX5_about_1 : decode cX5_about 1 = .ok (.invokestatic 71, 3) := by decide +kernel
theorem dX5_about_4 : decode cX5_about 4 = .ok (.ifCond .ne 5, 3) := by decide +kernel
theorem dX5_about_7 : decode cX5_about 7 = .ok (.iconst (-1), 1) := by decide +kernel
theorem dX5_about_8 : decode cX5_about 8 = .ok (.ireturn, 1) := by decide +kernel
theorem dX5_about_9 : decode cX5_about 9 = .ok (.aload_n 0, 1) := by decide +kernel
theorem dX5_about_10 : decode cX5_about 10 = .ok (.getfield 10, 3) := by decide +kernel
theorem dX5_about_13 : decode cX5_about 13 = .ok (.getfield 79, 3) := by decide +kernel
theorem dX5_about_16 : decode cX5_about 16 = .ok (.astore_n 3, 1) := by decide +kernel
theorem dX5_about_17 : decode cX5_about 17 = .ok (.iload_n 2, 1) := by decide +kernel
theorem dX5_about_18 : decode cX5_about 18 = .ok (.tableswitch 115 0 6 #[42, 68, 75, 82, 96, 102, 109], 42) := by decide +kernel
theorem dX5_about_60 : decode cX5_about 60 = .ok (.aload_n 3, 1) := by decide +kernel
theorem dX5_about_61 : decode cX5_about 61 = .ok (.iload_n 1, 1) := by decide +kernel
theorem dX5_about_62 : decode cX5_about 62 = .ok (.invokevirtual 92, 3) := by decide +kernel
theorem dX5_about_65 : decode cX5_about 65 = .ok (.ifCond .eq 7, 3) := by decide +kernel
theorem dX5_about_68 : decode cX5_about 68 = .ok (.iconst 2, 1) := by decide +kernel
theorem dX5_about_69 : decode cX5_about 69 = .ok (.goto 16, 3) := by decide +kernel
theorem dX5_about_72 : decode cX5_about 72 = .ok (.aload_n 3, 1) := by decide +kernel
theorem dX5_about_73 : decode cX5_about 73 = .ok (.iload_n 1, 1) := by decide +kernel
theorem dX5_about_74 : decode cX5_about 74 = .ok (.invokevirtual 95, 3) := by decide +kernel
theorem dX5_about_77 : decode cX5_about 77 = .ok (.ifCond .eq 7, 3) := by decide +kernel
theorem dX5_about_80 : decode cX5_about 80 = .ok (.iconst 1, 1) := by decide +kernel
theorem dX5_about_81 : decode cX5_about 81 = .ok (.goto 4, 3) := by decide +kernel
theorem dX5_about_84 : decode cX5_about 84 = .ok (.iconst 0, 1) := by decide +kernel
theorem dX5_about_85 : decode cX5_about 85 = .ok (.ireturn, 1) := by decide +kernel
theorem dX5_about_86 : decode cX5_about 86 = .ok (.aload_n 3, 1) := by decide +kernel
theorem dX5_about_87 : decode cX5_about 87 = .ok (.getfield 98, 3) := by decide +kernel
theorem dX5_about_90 : decode cX5_about 90 = .ok (.iload_n 1, 1) := by decide +kernel
theorem dX5_about_91 : decode cX5_about 91 = .ok (.iaload, 1) := by decide +kernel
theorem dX5_about_92 : decode cX5_about 92 = .ok (.ireturn, 1) := by decide +kernel
theorem dX5_about_93 : decode cX5_about 93 = .ok (.aload_n 3, 1) := by decide +kernel
theorem dX5_about_94 : decode cX5_about 94 = .ok (.getfield 102, 3) := by decide +kernel
theorem dX5_about_97 : decode cX5_about 97 = .ok (.iload_n 1, 1) := by decide +kernel
theorem dX5_about_98 : decode cX5_about 98 = .ok (.iaload, 1) := by decide +kernel
theorem dX5_about_99 : decode cX5_about 99 = .ok (.ireturn, 1) := by decide +kernel
theorem dX5_about_100 : decode cX5_about 100 = .ok (.aload_n 3, 1) := by decide +kernel
theorem dX5_about_101 : decode cX5_about 101 = .ok (.iload_n 1, 1) := by decide +kernel
theorem dX5_about_102 : decode cX5_about 102 = .ok (.invokevirtual 105, 3) := by decide +kernel
theorem dX5_about_105 : decode cX5_about 105 = .ok (.ifCond .eq 7, 3) := by decide +kernel
theorem dX5_about_108 : decode cX5_about 108 = .ok (.iconst 1, 1) := by decide +kernel
theorem dX5_about_109 : decode cX5_about 109 = .ok (.goto 4, 3) := by decide +kernel
theorem dX5_about_112 : decode cX5_about 112 = .ok (.iconst 0, 1) := by decide +kernel
theorem dX5_about_113 : decode cX5_about 113 = .ok (.ireturn, 1) := by decide +kernel
theorem dX5_about_114 : decode cX5_about 114 = .ok (.aload_n 3, 1) := by decide +kernel
theorem dX5_about_115 : decode cX5_about 115 = .ok (.iload_n 1, 1) := by decide +kernel
theorem dX5_about_116 : decode cX5_about 116 = .ok (.invokevirtual 108, 3) := by decide +kernel
theorem dX5_about_119 : decode cX5_about 119 = .ok (.ireturn, 1) := by decide +kernel
theorem dX5_about_120 : decode cX5_about 120 = .ok (.aload_n 3, 1) := by decide +kernel
theorem dX5_about_121 : decode cX5_about 121 = .ok (.getfield 111, 3) := by decide +kernel
theorem dX5_about_124 : decode cX5_about 124 = .ok (.iload_n 1, 1) := by decide +kernel
theorem dX5_about_125 : decode cX5_about 125 = .ok (.iaload, 1) := by decide +kernel
theorem dX5_about_126 : decode cX5_about 126 = .ok (.ireturn, 1) := by decide +kernel
theorem dX5_about_127 : decode cX5_about 127 = .ok (.aload_n 3, 1) := by decide +kernel
theorem dX5_about_128 : decode cX5_about 128 = .ok (.iload_n 1, 1) := by decide +kernel
theorem dX5_about_129 : decode cX5_about 129 = .ok (.invokevirtual 114, 3) := by decide +kernel
theorem dX5_about_132 : decode cX5_about 132 = .ok (.ireturn, 1) := by decide +kernel
theorem dX5_about_133 : decode cX5_about 133 = .ok (.iconst (-1), 1) := by decide +kernel
theorem dX5_about_134 : decode cX5_about 134 = .ok (.ireturn, 1) := by decide +kernel
theorem dX5_shoot_0 : decode cX5_shoot 0 = .ok (.iload_n 1, 1) := by decide +kernel
theorem dX5_shoot_1 : decode cX5_shoot 1 = .ok (.invokestatic 71, 3) := by decide +kernel
theorem dX5_shoot_4 : decode cX5_shoot 4 = .ok (.ifCond .eq 11, 3) := by decide +kernel
theorem dX5_shoot_7 : decode cX5_shoot 7 = .ok (.iload_n 2, 1) := by decide +kernel
theorem dX5_shoot_8 : decode cX5_shoot 8 = .ok (.iload_n 3, 1) := by decide +kernel
theorem dX5_shoot_9 : decode cX5_shoot 9 = .ok (.invokestatic 117, 3) := by decide +kernel
theorem dX5_shoot_12 : decode cX5_shoot 12 = .ok (.ifCond .ne 5, 3) := by decide +kernel
theorem dX5_shoot_15 : decode cX5_shoot 15 = .ok (.iconst (-1), 1) := by decide +kernel
theorem dX5_shoot_16 : decode cX5_shoot 16 = .ok (.ireturn, 1) := by decide +kernel
theorem dX5_shoot_17 : decode cX5_shoot 17 = .ok (.aload_n 0, 1) := by decide +kernel
theorem dX5_shoot_18 : decode cX5_shoot 18 = .ok (.getfield 10, 3) := by decide +kernel
theorem dX5_shoot_21 : decode cX5_shoot 21 = .ok (.iload_n 1, 1) := by decide +kernel
theorem dX5_shoot_22 : decode cX5_shoot 22 = .ok (.invokevirtual 120, 3) := by decide +kernel
theorem dX5_shoot_25 : decode cX5_shoot 25 = .ok (.ifCond .ne 6, 3) := by decide +kernel
theorem dX5_shoot_28 : decode cX5_shoot 28 = .ok (.bipush (-2), 2) := by decide +kernel
theorem dX5_shoot_30 : decode cX5_shoot 30 = .ok (.ireturn, 1) := by decide +kernel
theorem dX5_shoot_31 : decode cX5_shoot 31 = .ok (.aload_n 0, 1) := by decide +kernel
theorem dX5_shoot_32 : decode cX5_shoot 32 = .ok (.getfield 10, 3) := by decide +kernel
theorem dX5_shoot_35 : decode cX5_shoot 35 = .ok (.iload_n 1, 1) := by decide +kernel
theorem dX5_shoot_36 : decode cX5_shoot 36 = .ok (.iload_n 2, 1) := by decide +kernel
theorem dX5_shoot_37 : decode cX5_shoot 37 = .ok (.iload_n 3, 1) := by decide +kernel
theorem dX5_shoot_38 : decode cX5_shoot 38 = .ok (.invokevirtual 123, 3) := by decide +kernel
theorem dX5_shoot_41 : decode cX5_shoot 41 = .ok (.ifCond .eq 7, 3) := by decide +kernel
theorem dX5_shoot_44 : decode cX5_shoot 44 = .ok (.iconst 1, 1) := by decide +kernel
theorem dX5_shoot_45 : decode cX5_shoot 45 = .ok (.goto 4, 3) := by decide +kernel
theorem dX5_shoot_48 : decode cX5_shoot 48 = .ok (.iconst 0, 1) := by decide +kernel
theorem dX5_shoot_49 : decode cX5_shoot 49 = .ok (.ireturn, 1) := by decide +kernel
theorem dX5_blow_0 : decode cX5_blow 0 = .ok (.iload_n 1, 1) := by decide +kernel
theorem dX5_blow_1 : decode cX5_blow 1 = .ok (.invokestatic 71, 3) := by decide +kernel
theorem dX5_blow_4 : decode cX5_blow 4 = .ok (.ifCond .ne 5, 3) := by decide +kernel
theorem dX5_blow_7 : decode cX5_blow 7 = .ok (.iconst (-1), 1) := by decide +kernel
theorem dX5_blow_8 : decode cX5_blow 8 = .ok (.ireturn, 1) := by decide +kernel
theorem dX5_blow_9 : decode cX5_blow 9 = .ok (.aload_n 0, 1) := by decide +kernel
theorem dX5_blow_10 : decode cX5_blow 10 = .ok (.getfield 10, 3) := by decide +kernel
theorem dX5_blow_13 : decode cX5_blow 13 = .ok (.getfield 79, 3) := by decide +kernel
theorem dX5_blow_16 : decode cX5_blow 16 = .ok (.iload_n 1, 1) := by decide +kernel
theorem dX5_blow_17 : decode cX5_blow 17 = .ok (.invokevirtual 114, 3) := by decide +kernel
theorem dX5_blow_20 : decode cX5_blow 20 = .ok (.istore_n 2, 1) := by decide +kernel
theorem dX5_blow_21 : decode cX5_blow 21 = .ok (.aload_n 0, 1) := by decide +kernel
theorem dX5_blow_22 : decode cX5_blow 22 = .ok (.getfield 10, 3) := by decide +kernel
theorem dX5_blow_25 : decode cX5_blow 25 = .ok (.iload_n 1, 1) := by decide +kernel
theorem dX5_blow_26 : decode cX5_blow 26 = .ok (.invokevirtual 120, 3) := by decide +kernel
theorem dX5_blow_29 : decode cX5_blow 29 = .ok (.ifCond .eq 11, 3) := by decide +kernel
theorem dX5_blow_32 : decode cX5_blow 32 = .ok (.iload_n 2, 1) := by decide +kernel
theorem dX5_blow_33 : decode cX5_blow 33 = .ok (.invokestatic 126, 3) := by decide +kernel
theorem dX5_blow_36 : decode cX5_blow 36 = .ok (.iconst 2, 1) := by decide +kernel
theorem dX5_blow_37 : decode cX5_blow 37 = .ok (.if_icmp .ge 6, 3) := by decide +kernel
theorem dX5_blow_40 : decode cX5_blow 40 = .ok (.bipush (-2), 2) := by decide +kernel
theorem dX5_blow_42 : decode cX5_blow 42 = .ok (.ireturn, 1) := by decide +kernel
theorem dX5_blow_43 : decode cX5_blow 43 = .ok (.aload_n 0, 1) := by decide +kernel
theorem dX5_blow_44 : decode cX5_blow 44 = .ok (.getfield 10, 3) := by decide +kernel
theorem dX5_blow_47 : decode cX5_blow 47 = .ok (.iload_n 2, 1) := by decide +kernel
theorem dX5_blow_48 : decode cX5_blow 48 = .ok (.invokevirtual 131, 3) := by decide +kernel
theorem dX5_blow_51 : decode cX5_blow 51 = .ok (.iload_n 2, 1) := by decide +kernel
theorem dX5_blow_52 : decode cX5_blow 52 = .ok (.ireturn, 1) := by decide +kernel
theorem dX5_game_0 : decode cX5_game 0 = .ok (.aload_n 0, 1) := by decide +kernel
theorem dX5_game_1 : decode cX5_game 1 = .ok (.getfield 10, 3) := by decide +kernel
theorem dX5_game_4 : decode cX5_game 4 = .ok (.invokevirtual 135, 3) := by decide +kernel
theorem dX5_game_7 : decode cX5_game 7 = .ok (.istore_n 2, 1) := by decide +kernel
theorem dX5_game_8 : decode cX5_game 8 = .ok (.iload_n 1, 1) := by decide +kernel
theorem dX5_game_9 : decode cX5_game 9 = .ok (.tableswitch 104 0 4 #[35, 52, 60, 68, 78], 35) := by decide +kernel
theorem dX5_game_44 : decode cX5_game 44 = .ok (.iload_n 2, 1) := by decide +kernel
theorem dX5_game_45 : decode cX5_game 45 = .ok (.ifCond .eq 8, 3) := by decide +kernel
theorem dX5_game_48 : decode cX5_game 48 = .ok (.bipush (-4), 2) := by decide +kernel
theorem dX5_game_50 : decode cX5_game 50 = .ok (.goto 10, 3) := by decide +kernel
theorem dX5_game_53 : decode cX5_game 53 = .ok (.aload_n 0, 1) := by decide +kernel
theorem dX5_game_54 : decode cX5_game 54 = .ok (.getfield 10, 3) := by decide +kernel
theorem dX5_game_57 : decode cX5_game 57 = .ok (.getfield 139, 3) := by decide +kernel
theorem dX5_game_60 : decode cX5_game 60 = .ok (.ireturn, 1) := by decide +kernel
theorem dX5_game_61 : decode cX5_game 61 = .ok (.aload_n 0, 1) := by decide +kernel
theorem dX5_game_62 : decode cX5_game 62 = .ok (.getfield 10, 3) := by decide +kernel
theorem dX5_game_65 : decode cX5_game 65 = .ok (.getfield 45, 3) := by decide +kernel
theorem dX5_game_68 : decode cX5_game 68 = .ok (.ireturn, 1) := by decide +kernel
theorem dX5_game_69 : decode cX5_game 69 = .ok (.aload_n 0, 1) := by decide +kernel
theorem dX5_game_70 : decode cX5_game 70 = .ok (.getfield 10, 3) := by decide +kernel
theorem dX5_game_73 : decode cX5_game 73 = .ok (.invokevirtual 142, 3) := by decide +kernel
theorem dX5_game_76 : decode cX5_game 76 = .ok (.ireturn, 1) := by decide +kernel
theorem dX5_game_77 : decode cX5_game 77 = .ok (.iload_n 2, 1) := by decide +kernel
theorem dX5_game_78 : decode cX5_game 78 = .ok (.ifCond .eq 7, 3) := by decide +kernel
theorem dX5_game_81 : decode cX5_game 81 = .ok (.iconst 1, 1) := by decide +kernel
theorem dX5_game_82 : decode cX5_game 82 = .ok (.goto 4, 3) := by decide +kernel
theorem dX5_game_85 : decode cX5_game 85 = .ok (.iconst 0, 1) := by decide +kernel
theorem dX5_game_86 : decode cX5_game 86 = .ok (.ireturn, 1) := by decide +kernel
theorem dX5_game_87 : decode cX5_game 87 = .ok (.iload_n 2, 1) := by decide +kernel
theorem dX5_game_88 : decode cX5_game 88 = .ok (.ifCond .eq 7, 3) := by decide +kernel
theorem dX5_game_91 : decode cX5_game 91 = .ok (.iconst 0, 1) := by decide +kernel
theorem dX5_game_92 : decode cX5_game 92 = .ok (.goto 20, 3) := by decide +kernel
theorem dX5_game_95 : decode cX5_game 95 = .ok (.aload_n 0, 1) := by decide +kernel
theorem dX5_game_96 : decode cX5_game 96 = .ok (.getfield 10, 3) := by decide +kernel
theorem dX5_game_99 : decode cX5_game 99 = .ok (.getfield 79, 3) := by decide +kernel
theorem dX5_game_102 : decode cX5_game 102 = .ok (.aload_n 0, 1) := by decide +kernel
theorem dX5_game_103 : decode cX5_game 103 = .ok (.getfield 10, 3) := by decide +kernel
theorem dX5_game_106 : decode cX5_game 106 = .ok (.getfield 139, 3) := by decide +kernel
theorem dX5_game_109 : decode cX5_game 109 = .ok (.invokevirtual 146, 3) := by decide +kernel
theorem dX5_game_112 : decode cX5_game 112 = .ok (.ireturn, 1) := by decide +kernel
theorem dX5_game_113 : decode cX5_game 113 = .ok (.iconst (-1), 1) := by decide +kernel
theorem dX5_game_114 : decode cX5_game 114 = .ok (.ireturn, 1) := by decide +kernel
theorem dX5_score_0 : decode cX5_score 0 = .ok (.iload_n 1, 1) := by decide +kernel
theorem dX5_score_1 : decode cX5_score 1 = .ok (.invokestatic 149, 3) := by decide +kernel
theorem dX5_score_4 : decode cX5_score 4 = .ok (.ifCond .eq 17, 3) := by decide +kernel
theorem dX5_score_7 : decode cX5_score 7 = .ok (.aload_n 0, 1) := by decide +kernel
theorem dX5_score_8 : decode cX5_score 8 = .ok (.getfield 10, 3) := by decide +kernel
theorem dX5_score_11 : decode cX5_score 11 = .ok (.getfield 79, 3) := by decide +kernel
theorem dX5_score_14 : decode cX5_score 14 = .ok (.iload_n 1, 1) := by decide +kernel
theorem dX5_score_15 : decode cX5_score 15 = .ok (.invokevirtual 152, 3) := by decide +kernel
theorem dX5_score_18 : decode cX5_score 18 = .ok (.goto 4, 3) := by decide +kernel
theorem dX5_score_21 : decode cX5_score 21 = .ok (.iconst (-1), 1) := by decide +kernel
theorem dX5_score_22 : decode cX5_score 22 = .ok (.ireturn, 1) := by decide +kernel
theorem dX5_twelfths_0 : decode cX5_twelfths 0 = .ok (.iload_n 1, 1) := by decide +kernel
theorem dX5_twelfths_1 : decode cX5_twelfths 1 = .ok (.invokestatic 149, 3) := by decide +kernel
theorem dX5_twelfths_4 : decode cX5_twelfths 4 = .ok (.ifCond .eq 11, 3) := by decide +kernel
theorem dX5_twelfths_7 : decode cX5_twelfths 7 = .ok (.aload_n 0, 1) := by decide +kernel
theorem dX5_twelfths_8 : decode cX5_twelfths 8 = .ok (.iload_n 1, 1) := by decide +kernel
theorem dX5_twelfths_9 : decode cX5_twelfths 9 = .ok (.invokevirtual 155, 3) := by decide +kernel
theorem dX5_twelfths_12 : decode cX5_twelfths 12 = .ok (.goto 4, 3) := by decide +kernel
theorem dX5_twelfths_15 : decode cX5_twelfths 15 = .ok (.iconst (-1), 1) := by decide +kernel
theorem dX5_twelfths_16 : decode cX5_twelfths 16 = .ok (.ireturn, 1) := by decide +kernel
theorem dX5_points_0 : decode cX5_points 0 = .ok (.iload_n 1, 1) := by decide +kernel
theorem dX5_points_1 : decode cX5_points 1 = .ok (.ifCond .eq 10, 3) := by decide +kernel
theorem dX5_points_4 : decode cX5_points 4 = .ok (.iload_n 1, 1) := by decide +kernel
theorem dX5_points_5 : decode cX5_points 5 = .ok (.iconst 1, 1) := by decide +kernel
theorem dX5_points_6 : decode cX5_points 6 = .ok (.if_icmp .eq 5, 3) := by decide +kernel
theorem dX5_points_9 : decode cX5_points 9 = .ok (.iconst (-1), 1) := by decide +kernel
theorem dX5_points_10 : decode cX5_points 10 = .ok (.ireturn, 1) := by decide +kernel
theorem dX5_points_11 : decode cX5_points 11 = .ok (.iconst 0, 1) := by decide +kernel
theorem dX5_points_12 : decode cX5_points 12 = .ok (.istore_n 2, 1) := by decide +kernel
theorem dX5_points_13 : decode cX5_points 13 = .ok (.iconst 0, 1) := by decide +kernel
theorem dX5_points_14 : decode cX5_points 14 = .ok (.istore_n 3, 1) := by decide +kernel
theorem dX5_points_15 : decode cX5_points 15 = .ok (.iload_n 3, 1) := by decide +kernel
theorem dX5_points_16 : decode cX5_points 16 = .ok (.iconst 4, 1) := by decide +kernel
theorem dX5_points_17 : decode cX5_points 17 = .ok (.if_icmp .ge 65, 3) := by decide +kernel
theorem dX5_points_20 : decode cX5_points 20 = .ok (.iload_n 3, 1) := by decide +kernel
theorem dX5_points_21 : decode cX5_points 21 = .ok (.iconst 2, 1) := by decide +kernel
theorem dX5_points_22 : decode cX5_points 22 = .ok (.irem, 1) := by decide +kernel
theorem dX5_points_23 : decode cX5_points 23 = .ok (.iload_n 1, 1) := by decide +kernel
theorem dX5_points_24 : decode cX5_points 24 = .ok (.if_icmp .ne 7, 3) := by decide +kernel
theorem dX5_points_27 : decode cX5_points 27 = .ok (.iconst 1, 1) := by decide +kernel
theorem dX5_points_28 : decode cX5_points 28 = .ok (.goto 4, 3) := by decide +kernel
theorem dX5_points_31 : decode cX5_points 31 = .ok (.iconst 0, 1) := by decide +kernel
theorem dX5_points_32 : decode cX5_points 32 = .ok (.istore 4, 2) := by decide +kernel
theorem dX5_points_34 : decode cX5_points 34 = .ok (.iload 4, 2) := by decide +kernel
theorem dX5_points_36 : decode cX5_points 36 = .ok (.ifCond .eq 11, 3) := by decide +kernel
theorem dX5_points_39 : decode cX5_points 39 = .ok (.iload_n 2, 1) := by decide +kernel
theorem dX5_points_40 : decode cX5_points 40 = .ok (.aload_n 0, 1) := by decide +kernel
theorem dX5_points_41 : decode cX5_points 41 = .ok (.iload_n 3, 1) := by decide +kernel
theorem dX5_points_42 : decode cX5_points 42 = .ok (.invokevirtual 155, 3) := by decide +kernel
theorem dX5_points_45 : decode cX5_points 45 = .ok (.iadd, 1) := by decide +kernel
theorem dX5_points_46 : decode cX5_points 46 = .ok (.istore_n 2, 1) := by decide +kernel
theorem dX5_points_47 : decode cX5_points 47 = .ok (.aload_n 0, 1) := by decide +kernel
theorem dX5_points_48 : decode cX5_points 48 = .ok (.getfield 10, 3) := by decide +kernel
theorem dX5_points_51 : decode cX5_points 51 = .ok (.getfield 79, 3) := by decide +kernel
theorem dX5_points_54 : decode cX5_points 54 = .ok (.iload_n 3, 1) := by decide +kernel
theorem dX5_points_55 : decode cX5_points 55 = .ok (.invokevirtual 158, 3) := by decide +kernel
theorem dX5_points_58 : decode cX5_points 58 = .ok (.ifCond .eq 18, 3) := by decide +kernel
theorem dX5_points_61 : decode cX5_points 61 = .ok (.iload_n 2, 1) := by decide +kernel
theorem dX5_points_62 : decode cX5_points 62 = .ok (.iload 4, 2) := by decide +kernel
theorem dX5_points_64 : decode cX5_points 64 = .ok (.ifCond .eq 8, 3) := by decide +kernel
theorem dX5_points_67 : decode cX5_points 67 = .ok (.bipush 12, 2) := by decide +kernel
theorem dX5_points_69 : decode cX5_points 69 = .ok (.goto 5, 3) := by decide +kernel
theorem dX5_points_72 : decode cX5_points 72 = .ok (.bipush (-12), 2) := by decide +kernel
theorem dX5_points_74 : decode cX5_points 74 = .ok (.iadd, 1) := by decide +kernel
theorem dX5_points_75 : decode cX5_points 75 = .ok (.istore_n 2, 1) := by decide +kernel
theorem dX5_points_76 : decode cX5_points 76 = .ok (.iinc 3 1, 3) := by decide +kernel
theorem dX5_points_79 : decode cX5_points 79 = .ok (.goto (-64), 3) := by decide +kernel
theorem dX5_points_82 : decode cX5_points 82 = .ok (.iload_n 2, 1) := by decide +kernel
theorem dX5_points_83 : decode cX5_points 83 = .ok (.ireturn, 1) := by decide +kernel
theorem dX5_chance_0 : decode cX5_chance 0 = .ok (.iload_n 1, 1) := by decide +kernel
theorem dX5_chance_1 : decode cX5_chance 1 = .ok (.invokestatic 71, 3) := by decide +kernel
theorem dX5_chance_4 : decode cX5_chance 4 = .ok (.ifCond .eq 15, 3) := by decide +kernel
theorem dX5_chance_7 : decode cX5_chance 7 = .ok (.iload_n 2, 1) := by decide +kernel
theorem dX5_chance_8 : decode cX5_chance 8 = .ok (.iconst (-1), 1) := by decide +kernel
theorem dX5_chance_9 : decode cX5_chance 9 = .ok (.if_icmp .eq 12, 3) := by decide +kernel
theorem dX5_chance_12 : decode cX5_chance 12 = .ok (.iload_n 2, 1) := by decide +kernel
theorem dX5_chance_13 : decode cX5_chance 13 = .ok (.invokestatic 71, 3) := by decide +kernel
theorem dX5_chance_16 : decode cX5_chance 16 = .ok (.ifCond .ne 5, 3) := by decide +kernel
theorem dX5_chance_19 : decode cX5_chance 19 = .ok (.iconst (-1), 1) := by decide +kernel
theorem dX5_chance_20 : decode cX5_chance 20 = .ok (.ireturn, 1) := by decide +kernel
theorem dX5_chance_21 : decode cX5_chance 21 = .ok (.aload_n 0, 1) := by decide +kernel
theorem dX5_chance_22 : decode cX5_chance 22 = .ok (.getfield 10, 3) := by decide +kernel
theorem dX5_chance_25 : decode cX5_chance 25 = .ok (.getfield 79, 3) := by decide +kernel
theorem dX5_chance_28 : decode cX5_chance 28 = .ok (.astore_n 3, 1) := by decide +kernel
theorem dX5_chance_29 : decode cX5_chance 29 = .ok (.aload_n 3, 1) := by decide +kernel
theorem dX5_chance_30 : decode cX5_chance 30 = .ok (.iload_n 1, 1) := by decide +kernel
theorem dX5_chance_31 : decode cX5_chance 31 = .ok (.invokevirtual 92, 3) := by decide +kernel
theorem dX5_chance_34 : decode cX5_chance 34 = .ok (.ifCond .ne 21, 3) := by decide +kernel
theorem dX5_chance_37 : decode cX5_chance 37 = .ok (.iload_n 2, 1) := by decide +kernel
theorem dX5_chance_38 : decode cX5_chance 38 = .ok (.iload_n 1, 1) := by decide +kernel
theorem dX5_chance_39 : decode cX5_chance 39 = .ok (.if_icmp .eq 16, 3) := by decide +kernel
theorem dX5_chance_42 : decode cX5_chance 42 = .ok (.iload_n 2, 1) := by decide +kernel
theorem dX5_chance_43 : decode cX5_chance 43 = .ok (.iconst (-1), 1) := by decide +kernel
theorem dX5_chance_44 : decode cX5_chance 44 = .ok (.if_icmp .eq 14, 3) := by decide +kernel
theorem dX5_chance_47 : decode cX5_chance 47 = .ok (.aload_n 3, 1) := by decide +kernel
theorem dX5_chance_48 : decode cX5_chance 48 = .ok (.iload_n 2, 1) := by decide +kernel
theorem dX5_chance_49 : decode cX5_chance 49 = .ok (.invokevirtual 95, 3) := by decide +kernel
theorem dX5_chance_52 : decode cX5_chance 52 = .ok (.ifCond .ne 6, 3) := by decide +kernel
theorem dX5_chance_55 : decode cX5_chance 55 = .ok (.bipush (-2), 2) := by decide +kernel
theorem dX5_chance_57 : decode cX5_chance 57 = .ok (.ireturn, 1) := by decide +kernel
theorem dX5_chance_58 : decode cX5_chance 58 = .ok (.aload_n 3, 1) := by decide +kernel
theorem dX5_chance_59 : decode cX5_chance 59 = .ok (.iload_n 1, 1) := by decide +kernel
theorem dX5_chance_60 : decode cX5_chance 60 = .ok (.iload_n 2, 1) := by decide +kernel
theorem dX5_chance_61 : decode cX5_chance 61 = .ok (.invokestatic 161, 3) := by decide +kernel
theorem dX5_chance_64 : decode cX5_chance 64 = .ok (.ireturn, 1) := by decide +kernel
theorem dX5_best_0 : decode cX5_best 0 = .ok (.iload_n 1, 1) := by decide +kernel
theorem dX5_best_1 : decode cX5_best 1 = .ok (.invokestatic 149, 3) := by decide +kernel
theorem dX5_best_4 : decode cX5_best 4 = .ok (.ifCond .eq 12, 3) := by decide +kernel
theorem dX5_best_7 : decode cX5_best 7 = .ok (.iload_n 2, 1) := by decide +kernel
theorem dX5_best_8 : decode cX5_best 8 = .ok (.iconst 0, 1) := by decide +kernel
theorem dX5_best_9 : decode cX5_best 9 = .ok (.iconst 2, 1) := by decide +kernel
theorem dX5_best_10 : decode cX5_best 10 = .ok (.invokestatic 51, 3) := by decide +kernel
theorem dX5_best_13 : decode cX5_best 13 = .ok (.ifCond .ne 6, 3) := by decide +kernel
theorem dX5_best_16 : decode cX5_best 16 = .ok (.bipush (-100), 2) := by decide +kernel
theorem dX5_best_18 : decode cX5_best 18 = .ok (.ireturn, 1) := by decide +kernel
theorem dX5_best_19 : decode cX5_best 19 = .ok (.aload_n 0, 1) := by decide +kernel
theorem dX5_best_20 : decode cX5_best 20 = .ok (.getfield 19, 3) := by decide +kernel
theorem dX5_best_23 : decode cX5_best 23 = .ok (.aload_n 0, 1) := by decide +kernel
theorem dX5_best_24 : decode cX5_best 24 = .ok (.getfield 10, 3) := by decide +kernel
theorem dX5_best_27 : decode cX5_best 27 = .ok (.getfield 79, 3) := by decide +kernel
theorem dX5_best_30 : decode cX5_best 30 = .ok (.iload_n 1, 1) := by decide +kernel
theorem dX5_best_31 : decode cX5_best 31 = .ok (.invokevirtual 165, 3) := by decide +kernel
theorem dX5_best_34 : decode cX5_best 34 = .ok (.istore_n 3, 1) := by decide +kernel
theorem dX5_best_35 : decode cX5_best 35 = .ok (.iload_n 3, 1) := by decide +kernel
theorem dX5_best_36 : decode cX5_best 36 = .ok (.ifCond .ne 6, 3) := by decide +kernel
theorem dX5_best_39 : decode cX5_best 39 = .ok (.bipush (-102), 2) := by decide +kernel
theorem dX5_best_41 : decode cX5_best 41 = .ok (.ireturn, 1) := by decide +kernel
theorem dX5_best_42 : decode cX5_best 42 = .ok (.iload_n 2, 1) := by decide +kernel
theorem dX5_best_43 : decode cX5_best 43 = .ok (.ifCond .ne 13, 3) := by decide +kernel
theorem dX5_best_46 : decode cX5_best 46 = .ok (.aload_n 0, 1) := by decide +kernel
theorem dX5_best_47 : decode cX5_best 47 = .ok (.getfield 19, 3) := by decide +kernel
theorem dX5_best_50 : decode cX5_best 50 = .ok (.getfield 169, 3) := by decide +kernel
theorem dX5_best_53 : decode cX5_best 53 = .ok (.goto 19, 3) := by decide +kernel
theorem dX5_best_56 : decode cX5_best 56 = .ok (.iload_n 2, 1) := by decide +kernel
theorem dX5_best_57 : decode cX5_best 57 = .ok (.iconst 1, 1) := by decide +kernel
theorem dX5_best_58 : decode cX5_best 58 = .ok (.if_icmp .ne 13, 3) := by decide +kernel
theorem dX5_best_61 : decode cX5_best 61 = .ok (.aload_n 0, 1) := by decide +kernel
theorem dX5_best_62 : decode cX5_best 62 = .ok (.getfield 19, 3) := by decide +kernel
theorem dX5_best_65 : decode cX5_best 65 = .ok (.getfield 172, 3) := by decide +kernel
theorem dX5_best_68 : decode cX5_best 68 = .ok (.goto 4, 3) := by decide +kernel
theorem dX5_best_71 : decode cX5_best 71 = .ok (.iload_n 3, 1) := by decide +kernel
theorem dX5_best_72 : decode cX5_best 72 = .ok (.ireturn, 1) := by decide +kernel
theorem dX5_ahead_0 : decode cX5_ahead 0 = .ok (.aload_n 0, 1) := by decide +kernel
theorem dX5_ahead_1 : decode cX5_ahead 1 = .ok (.getfield 10, 3) := by decide +kernel
theorem dX5_ahead_4 : decode cX5_ahead 4 = .ok (.invokevirtual 135, 3) := by decide +kernel
theorem dX5_ahead_7 : decode cX5_ahead 7 = .ok (.ifCond .eq 7, 3) := by decide +kernel
theorem dX5_ahead_10 : decode cX5_ahead 10 = .ok (.sipush (-10002), 3) := by decide +kernel
theorem dX5_ahead_13 : decode cX5_ahead 13 = .ok (.ireturn, 1) := by decide +kernel
theorem dX5_ahead_14 : decode cX5_ahead 14 = .ok (.aload_n 0, 1) := by decide +kernel
theorem dX5_ahead_15 : decode cX5_ahead 15 = .ok (.getfield 19, 3) := by decide +kernel
theorem dX5_ahead_18 : decode cX5_ahead 18 = .ok (.aload_n 0, 1) := by decide +kernel
theorem dX5_ahead_19 : decode cX5_ahead 19 = .ok (.getfield 10, 3) := by decide +kernel
theorem dX5_ahead_22 : decode cX5_ahead 22 = .ok (.getfield 79, 3) := by decide +kernel
theorem dX5_ahead_25 : decode cX5_ahead 25 = .ok (.aload_n 0, 1) := by decide +kernel
theorem dX5_ahead_26 : decode cX5_ahead 26 = .ok (.getfield 10, 3) := by decide +kernel
theorem dX5_ahead_29 : decode cX5_ahead 29 = .ok (.getfield 139, 3) := by decide +kernel
theorem dX5_ahead_32 : decode cX5_ahead 32 = .ok (.invokevirtual 165, 3) := by decide +kernel
theorem dX5_ahead_35 : decode cX5_ahead 35 = .ok (.istore_n 1, 1) := by decide +kernel
theorem dX5_ahead_36 : decode cX5_ahead 36 = .ok (.iload_n 1, 1) := by decide +kernel
theorem dX5_ahead_37 : decode cX5_ahead 37 = .ok (.aload_n 0, 1) := by decide +kernel
theorem dX5_ahead_38 : decode cX5_ahead 38 = .ok (.getfield 19, 3) := by decide +kernel
theorem dX5_ahead_41 : decode cX5_ahead 41 = .ok (.aload_n 0, 1) := by decide +kernel
theorem dX5_ahead_42 : decode cX5_ahead 42 = .ok (.getfield 10, 3) := by decide +kernel
theorem dX5_ahead_45 : decode cX5_ahead 45 = .ok (.getfield 79, 3) := by decide +kernel
theorem dX5_ahead_48 : decode cX5_ahead 48 = .ok (.aload_n 0, 1) := by decide +kernel
theorem dX5_ahead_49 : decode cX5_ahead 49 = .ok (.getfield 10, 3) := by decide +kernel
theorem dX5_ahead_52 : decode cX5_ahead 52 = .ok (.invokevirtual 175, 3) := by decide +kernel
theorem dX5_ahead_55 : decode cX5_ahead 55 = .ok (.invokevirtual 165, 3) := by decide +kernel
theorem dX5_ahead_58 : decode cX5_ahead 58 = .ok (.isub, 1) := by decide +kernel
theorem dX5_ahead_59 : decode cX5_ahead 59 = .ok (.ireturn, 1) := by decide +kernel
theorem dX5_write_0 : decode cX5_write 0 = .ok (.iload_n 1, 1) := by decide +kernel
theorem dX5_write_1 : decode cX5_write 1 = .ok (.invokestatic 71, 3) := by decide +kernel
theorem dX5_write_4 : decode cX5_write 4 = .ok (.ifCond .eq 11, 3) := by decide +kernel
theorem dX5_write_7 : decode cX5_write 7 = .ok (.iload_n 2, 1) := by decide +kernel
theorem dX5_write_8 : decode cX5_write 8 = .ok (.iload_n 3, 1) := by decide +kernel
theorem dX5_write_9 : decode cX5_write 9 = .ok (.invokestatic 75, 3) := by decide +kernel
theorem dX5_write_12 : decode cX5_write 12 = .ok (.ifCond .ne 5, 3) := by decide +kernel
theorem dX5_write_15 : decode cX5_write 15 = .ok (.iconst (-1), 1) := by decide +kernel
theorem dX5_write_16 : decode cX5_write 16 = .ok (.ireturn, 1) := by decide +kernel
theorem dX5_write_17 : decode cX5_write 17 = .ok (.aload_n 0, 1) := by decide +kernel
theorem dX5_write_18 : decode cX5_write 18 = .ok (.getfield 26, 3) := by decide +kernel
theorem dX5_write_21 : decode cX5_write 21 = .ok (.iload_n 1, 1) := by decide +kernel
theorem dX5_write_22 : decode cX5_write 22 = .ok (.iload_n 2, 1) := by decide +kernel
theorem dX5_write_23 : decode cX5_write 23 = .ok (.iload_n 3, 1) := by decide +kernel
theorem dX5_write_24 : decode cX5_write 24 = .ok (.invokevirtual 178, 3) := by decide +kernel
theorem dX5_write_27 : decode cX5_write 27 = .ok (.ireturn, 1) := by decide +kernel
theorem dX5_wipe_0 : decode cX5_wipe 0 = .ok (.aload_n 0, 1) := by decide +kernel
theorem dX5_wipe_1 : decode cX5_wipe 1 = .ok (.getfield 26, 3) := by decide +kernel
theorem dX5_wipe_4 : decode cX5_wipe 4 = .ok (.invokevirtual 182, 3) := by decide +kernel
theorem dX5_wipe_7 : decode cX5_wipe 7 = .ok (.ireturn, 1) := by decide +kernel
theorem dX5_wrong_0 : decode cX5_wrong 0 = .ok (.aload_n 0, 1) := by decide +kernel
theorem dX5_wrong_1 : decode cX5_wrong 1 = .ok (.getfield 26, 3) := by decide +kernel
theorem dX5_wrong_4 : decode cX5_wrong 4 = .ok (.aload_n 0, 1) := by decide +kernel
theorem dX5_wrong_5 : decode cX5_wrong 5 = .ok (.getfield 10, 3) := by decide +kernel
theorem dX5_wrong_8 : decode cX5_wrong 8 = .ok (.getfield 185, 3) := by decide +kernel
theorem dX5_wrong_11 : decode cX5_wrong 11 = .ok (.invokevirtual 188, 3) := by decide +kernel
theorem dX5_wrong_14 : decode cX5_wrong 14 = .ok (.ireturn, 1) := by decide +kernel
theorem dX5_canBe_0 : decode cX5_canBe 0 = .ok (.iload_n 1, 1) := by decide +kernel
theorem dX5_canBe_1 : decode cX5_canBe 1 = .ok (.ifCond .eq 10, 3) := by decide +kernel
theorem dX5_canBe_4 : decode cX5_canBe 4 = .ok (.iload_n 1, 1) := by decide +kernel
theorem dX5_canBe_5 : decode cX5_canBe 5 = .ok (.iconst 1, 1) := by decide +kernel
theorem dX5_canBe_6 : decode cX5_canBe 6 = .ok (.if_icmp .eq 5, 3) := by decide +kernel
theorem dX5_canBe_9 : decode cX5_canBe 9 = .ok (.iconst (-1), 1) := by decide +kernel
theorem dX5_canBe_10 : decode cX5_canBe 10 = .ok (.ireturn, 1) := by decide +kernel
theorem dX5_canBe_11 : decode cX5_canBe 11 = .ok (.aload_n 0, 1) := by decide +kernel
theorem dX5_canBe_12 : decode cX5_canBe 12 = .ok (.getfield 26, 3) := by decide +kernel
theorem dX5_canBe_15 : decode cX5_canBe 15 = .ok (.invokevirtual 191, 3) := by decide +kernel
theorem dX5_canBe_18 : decode cX5_canBe 18 = .ok (.istore_n 2, 1) := by decide +kernel
theorem dX5_canBe_19 : decode cX5_canBe 19 = .ok (.iload_n 2, 1) := by decide +kernel
theorem dX5_canBe_20 : decode cX5_canBe 20 = .ok (.bipush (-4), 2) := by decide +kernel
theorem dX5_canBe_22 : decode cX5_canBe 22 = .ok (.if_icmp .ne 6, 3) := by decide +kernel
theorem dX5_canBe_25 : decode cX5_canBe 25 = .ok (.bipush (-2), 2) := by decide +kernel
theorem dX5_canBe_27 : decode cX5_canBe 27 = .ok (.ireturn, 1) := by decide +kernel
theorem dX5_canBe_28 : decode cX5_canBe 28 = .ok (.aload_n 0, 1) := by decide +kernel
theorem dX5_canBe_29 : decode cX5_canBe 29 = .ok (.getfield 26, 3) := by decide +kernel
theorem dX5_canBe_32 : decode cX5_canBe 32 = .ok (.iload_n 2, 1) := by decide +kernel
theorem dX5_canBe_33 : decode cX5_canBe 33 = .ok (.aload_n 0, 1) := by decide +kernel
theorem dX5_canBe_34 : decode cX5_canBe 34 = .ok (.getfield 10, 3) := by decide +kernel
theorem dX5_canBe_37 : decode cX5_canBe 37 = .ok (.getfield 185, 3) := by decide +kernel
theorem dX5_canBe_40 : decode cX5_canBe 40 = .ok (.invokevirtual 194, 3) := by decide +kernel
theorem dX5_canBe_43 : decode cX5_canBe 43 = .ok (.iload_n 1, 1) := by decide +kernel
theorem dX5_canBe_44 : decode cX5_canBe 44 = .ok (.ifCond .ne 13, 3) := by decide +kernel
theorem dX5_canBe_47 : decode cX5_canBe 47 = .ok (.aload_n 0, 1) := by decide +kernel
theorem dX5_canBe_48 : decode cX5_canBe 48 = .ok (.getfield 26, 3) := by decide +kernel
theorem dX5_canBe_51 : decode cX5_canBe 51 = .ok (.getfield 198, 3) := by decide +kernel
theorem dX5_canBe_54 : decode cX5_canBe 54 = .ok (.goto 10, 3) := by decide +kernel
theorem dX5_canBe_57 : decode cX5_canBe 57 = .ok (.aload_n 0, 1) := by decide +kernel
theorem dX5_canBe_58 : decode cX5_canBe 58 = .ok (.getfield 26, 3) := by decide +kernel
theorem dX5_canBe_61 : decode cX5_canBe 61 = .ok (.getfield 201, 3) := by decide +kernel
theorem dX5_canBe_64 : decode cX5_canBe 64 = .ok (.ireturn, 1) := by decide +kernel
theorem dX5_seen_0 : decode cX5_seen 0 = .ok (.iload_n 1, 1) := by decide +kernel
theorem dX5_seen_1 : decode cX5_seen 1 = .ok (.invokestatic 149, 3) := by decide +kernel
theorem dX5_seen_4 : decode cX5_seen 4 = .ok (.ifCond .eq 31, 3) := by decide +kernel
theorem dX5_seen_7 : decode cX5_seen 7 = .ok (.iload_n 2, 1) := by decide +kernel
theorem dX5_seen_8 : decode cX5_seen 8 = .ok (.iload_n 3, 1) := by decide +kernel
theorem dX5_seen_9 : decode cX5_seen 9 = .ok (.invokestatic 117, 3) := by decide +kernel
theorem dX5_seen_12 : decode cX5_seen 12 = .ok (.ifCond .eq 23, 3) := by decide +kernel
theorem dX5_seen_15 : decode cX5_seen 15 = .ok (.iload 4, 2) := by decide +kernel
theorem dX5_seen_17 : decode cX5_seen 17 = .ok (.iload 5, 2) := by decide +kernel
theorem dX5_seen_19 : decode cX5_seen 19 = .ok (.invokestatic 117, 3) := by decide +kernel
theorem dX5_seen_22 : decode cX5_seen 22 = .ok (.ifCond .eq 13, 3) := by decide +kernel
theorem dX5_seen_25 : decode cX5_seen 25 = .ok (.iload 6, 2) := by decide +kernel
theorem dX5_seen_27 : decode cX5_seen 27 = .ok (.iload 7, 2) := by decide +kernel
theorem dX5_seen_29 : decode cX5_seen 29 = .ok (.invokestatic 117, 3) := by decide +kernel
theorem dX5_seen_32 : decode cX5_seen 32 = .ok (.ifCond .ne 5, 3) := by decide +kernel
theorem dX5_seen_35 : decode cX5_seen 35 = .ok (.iconst (-1), 1) := by decide +kernel
theorem dX5_seen_36 : decode cX5_seen 36 = .ok (.ireturn, 1) := by decide +kernel
theorem dX5_seen_37 : decode cX5_seen 37 = .ok (.iload 6, 2) := by decide +kernel
theorem dX5_seen_39 : decode cX5_seen 39 = .ok (.iload 4, 2) := by decide +kernel
theorem dX5_seen_41 : decode cX5_seen 41 = .ok (.isub, 1) := by decide +kernel
theorem dX5_seen_42 : decode cX5_seen 42 = .ok (.invokestatic 204, 3) := by decide +kernel
theorem dX5_seen_45 : decode cX5_seen 45 = .ok (.iload 7, 2) := by decide +kernel
theorem dX5_seen_47 : decode cX5_seen 47 = .ok (.iload 5, 2) := by decide +kernel
theorem dX5_seen_49 : decode cX5_seen 49 = .ok (.isub, 1) := by decide +kernel
theorem dX5_seen_50 : decode cX5_seen 50 = .ok (.invokestatic 204, 3) := by decide +kernel
theorem dX5_seen_53 : decode cX5_seen 53 = .ok (.iadd, 1) := by decide +kernel
theorem dX5_seen_54 : decode cX5_seen 54 = .ok (.istore 8, 2) := by decide +kernel
theorem dX5_seen_56 : decode cX5_seen 56 = .ok (.aload_n 0, 1) := by decide +kernel
theorem dX5_seen_57 : decode cX5_seen 57 = .ok (.getfield 33, 3) := by decide +kernel
theorem dX5_seen_60 : decode cX5_seen 60 = .ok (.iload_n 1, 1) := by decide +kernel
theorem dX5_seen_61 : decode cX5_seen 61 = .ok (.iload_n 2, 1) := by decide +kernel
theorem dX5_seen_62 : decode cX5_seen 62 = .ok (.iload_n 3, 1) := by decide +kernel
theorem dX5_seen_63 : decode cX5_seen 63 = .ok (.iload 4, 2) := by decide +kernel
theorem dX5_seen_65 : decode cX5_seen 65 = .ok (.iload 5, 2) := by decide +kernel
theorem dX5_seen_67 : decode cX5_seen 67 = .ok (.invokestatic 209, 3) := by decide +kernel
theorem dX5_seen_70 : decode cX5_seen 70 = .ok (.iload 8, 2) := by decide +kernel
theorem dX5_seen_72 : decode cX5_seen 72 = .ok (.invokevirtual 213, 3) := by decide +kernel
theorem dX5_seen_75 : decode cX5_seen 75 = .ok (.ireturn, 1) := by decide +kernel
theorem dX5_scatter_0 : decode cX5_scatter 0 = .ok (.iload_n 1, 1) := by decide +kernel
theorem dX5_scatter_1 : decode cX5_scatter 1 = .ok (.invokestatic 149, 3) := by decide +kernel
theorem dX5_scatter_4 : decode cX5_scatter 4 = .ok (.ifCond .eq 21, 3) := by decide +kernel
theorem dX5_scatter_7 : decode cX5_scatter 7 = .ok (.iload_n 2, 1) := by decide +kernel
theorem dX5_scatter_8 : decode cX5_scatter 8 = .ok (.iconst 0, 1) := by decide +kernel
theorem dX5_scatter_9 : decode cX5_scatter 9 = .ok (.iconst 4, 1) := by decide +kernel
theorem dX5_scatter_10 : decode cX5_scatter 10 = .ok (.invokestatic 51, 3) := by decide +kernel
theorem dX5_scatter_13 : decode cX5_scatter 13 = .ok (.ifCond .eq 12, 3) := by decide +kernel
theorem dX5_scatter_16 : decode cX5_scatter 16 = .ok (.iload_n 3, 1) := by decide +kernel
theorem dX5_scatter_17 : decode cX5_scatter 17 = .ok (.iconst 0, 1) := by decide +kernel
theorem dX5_scatter_18 : decode cX5_scatter 18 = .ok (.iconst 2, 1) := by decide +kernel
theorem dX5_scatter_19 : decode cX5_scatter 19 = .ok (.invokestatic 51, 3) := by decide +kernel
theorem dX5_scatter_22 : decode cX5_scatter 22 = .ok (.ifCond .ne 5, 3) := by decide +kernel
theorem dX5_scatter_25 : decode cX5_scatter 25 = .ok (.iconst (-1), 1) := by decide +kernel
theorem dX5_scatter_26 : decode cX5_scatter 26 = .ok (.ireturn, 1) := by decide +kernel
theorem dX5_scatter_27 : decode cX5_scatter 27 = .ok (.aload_n 0, 1) := by decide +kernel
theorem dX5_scatter_28 : decode cX5_scatter 28 = .ok (.getfield 33, 3) := by decide +kernel
theorem dX5_scatter_31 : decode cX5_scatter 31 = .ok (.iload_n 1, 1) := by decide +kernel
theorem dX5_scatter_32 : decode cX5_scatter 32 = .ok (.iload_n 2, 1) := by decide +kernel
theorem dX5_scatter_33 : decode cX5_scatter 33 = .ok (.iload_n 3, 1) := by decide +kernel
theorem dX5_scatter_34 : decode cX5_scatter 34 = .ok (.invokevirtual 214, 3) := by decide +kernel
theorem dX5_scatter_37 : decode cX5_scatter 37 = .ok (.ireturn, 1) := by decide +kernel
theorem dX5_keep_0 : decode cX5_keep 0 = .ok (.aload_n 0, 1) := by decide +kernel
theorem dX5_keep_1 : decode cX5_keep 1 = .ok (.getfield 41, 3) := by decide +kernel
theorem dX5_keep_4 : decode cX5_keep 4 = .ok (.iconst 3, 1) := by decide +kernel
theorem dX5_keep_5 : decode cX5_keep 5 = .ok (.if_icmp .lt 6, 3) := by decide +kernel
theorem dX5_keep_8 : decode cX5_keep 8 = .ok (.bipush (-3), 2) := by decide +kernel
theorem dX5_keep_10 : decode cX5_keep 10 = .ok (.ireturn, 1) := by decide +kernel
theorem dX5_keep_11 : decode cX5_keep 11 = .ok (.aload_n 0, 1) := by decide +kernel
theorem dX5_keep_12 : decode cX5_keep 12 = .ok (.getfield 37, 3) := by decide +kernel
theorem dX5_keep_15 : decode cX5_keep 15 = .ok (.aload_n 0, 1) := by decide +kernel
theorem dX5_keep_16 : decode cX5_keep 16 = .ok (.getfield 41, 3) := by decide +kernel
theorem dX5_keep_19 : decode cX5_keep 19 = .ok (.aaload, 1) := by decide +kernel
theorem dX5_keep_20 : decode cX5_keep 20 = .ok (.aload_n 0, 1) := by decide +kernel
theorem dX5_keep_21 : decode cX5_keep 21 = .ok (.getfield 10, 3) := by decide +kernel
theorem dX5_keep_24 : decode cX5_keep 24 = .ok (.invokevirtual 217, 3) := by decide +kernel
theorem dX5_keep_27 : decode cX5_keep 27 = .ok (.aload_n 0, 1) := by decide +kernel
theorem dX5_keep_28 : decode cX5_keep 28 = .ok (.dup, 1) := by decide +kernel
theorem dX5_keep_29 : decode cX5_keep 29 = .ok (.getfield 41, 3) := by decide +kernel
theorem dX5_keep_32 : decode cX5_keep 32 = .ok (.iconst 1, 1) := by decide +kernel
theorem dX5_keep_33 : decode cX5_keep 33 = .ok (.iadd, 1) := by decide +kernel
theorem dX5_keep_34 : decode cX5_keep 34 = .ok (.putfield 41, 3) := by decide +kernel
theorem dX5_keep_37 : decode cX5_keep 37 = .ok (.aload_n 0, 1) := by decide +kernel
theorem dX5_keep_38 : decode cX5_keep 38 = .ok (.getfield 41, 3) := by decide +kernel
theorem dX5_keep_41 : decode cX5_keep 41 = .ok (.ireturn, 1) := by decide +kernel
theorem dX5_back_0 : decode cX5_back 0 = .ok (.aload_n 0, 1) := by decide +kernel
theorem dX5_back_1 : decode cX5_back 1 = .ok (.getfield 41, 3) := by decide +kernel
theorem dX5_back_4 : decode cX5_back 4 = .ok (.ifCond .gt 6, 3) := by decide +kernel
theorem dX5_back_7 : decode cX5_back 7 = .ok (.bipush (-2), 2) := by decide +kernel
theorem dX5_back_9 : decode cX5_back 9 = .ok (.ireturn, 1) := by decide +kernel
theorem dX5_back_10 : decode cX5_back 10 = .ok (.aload_n 0, 1) := by decide +kernel
theorem dX5_back_11 : decode cX5_back 11 = .ok (.dup, 1) := by decide +kernel
theorem dX5_back_12 : decode cX5_back 12 = .ok (.getfield 41, 3) := by decide +kernel
theorem dX5_back_15 : decode cX5_back 15 = .ok (.iconst 1, 1) := by decide +kernel
theorem dX5_back_16 : decode cX5_back 16 = .ok (.isub, 1) := by decide +kernel
theorem dX5_back_17 : decode cX5_back 17 = .ok (.putfield 41, 3) := by decide +kernel
theorem dX5_back_20 : decode cX5_back 20 = .ok (.aload_n 0, 1) := by decide +kernel
theorem dX5_back_21 : decode cX5_back 21 = .ok (.getfield 10, 3) := by decide +kernel
theorem dX5_back_24 : decode cX5_back 24 = .ok (.aload_n 0, 1) := by decide +kernel
theorem dX5_back_25 : decode cX5_back 25 = .ok (.getfield 37, 3) := by decide +kernel
theorem dX5_back_28 : decode cX5_back 28 = .ok (.aload_n 0, 1) := by decide +kernel
theorem dX5_back_29 : decode cX5_back 29 = .ok (.getfield 41, 3) := by decide +kernel
theorem dX5_back_32 : decode cX5_back 32 = .ok (.aaload, 1) := by decide +kernel
theorem dX5_back_33 : decode cX5_back 33 = .ok (.invokevirtual 217, 3) := by decide +kernel
theorem dX5_back_36 : decode cX5_back 36 = .ok (.aload_n 0, 1) := by decide +kernel
theorem dX5_back_37 : decode cX5_back 37 = .ok (.getfield 41, 3) := by decide +kernel
theorem dX5_back_40 : decode cX5_back 40 = .ok (.ireturn, 1) := by decide +kernel
theorem dX5_count_0 : decode cX5_count 0 = .ok (.aload_n 0, 1) := by decide +kernel
theorem dX5_count_1 : decode cX5_count 1 = .ok (.getfield 10, 3) := by decide +kernel
theorem dX5_count_4 : decode cX5_count 4 = .ok (.getfield 79, 3) := by decide +kernel
theorem dX5_count_7 : decode cX5_count 7 = .ok (.astore_n 2, 1) := by decide +kernel
theorem dX5_count_8 : decode cX5_count 8 = .ok (.iload_n 1, 1) := by decide +kernel
theorem dX5_count_9 : decode cX5_count 9 = .ok (.tableswitch 95 0 5 #[39, 58, 66, 74, 82, 87], 39) := by decide +kernel
theorem dX5_count_48 : decode cX5_count 48 = .ok (.bipush 16, 2) := by decide +kernel
theorem dX5_count_50 : decode cX5_count 50 = .ok (.aload_n 2, 1) := by decide +kernel
theorem dX5_count_51 : decode cX5_count 51 = .ok (.getfield 221, 3) := by decide +kernel
theorem dX5_count_54 : decode cX5_count 54 = .ok (.invokestatic 126, 3) := by decide +kernel
theorem dX5_count_57 : decode cX5_count 57 = .ok (.isub, 1) := by decide +kernel
theorem dX5_count_58 : decode cX5_count 58 = .ok (.aload_n 2, 1) := by decide +kernel
theorem dX5_count_59 : decode cX5_count 59 = .ok (.getfield 224, 3) := by decide +kernel
theorem dX5_count_62 : decode cX5_count 62 = .ok (.invokestatic 126, 3) := by decide +kernel
theorem dX5_count_65 : decode cX5_count 65 = .ok (.isub, 1) := by decide +kernel
theorem dX5_count_66 : decode cX5_count 66 = .ok (.ireturn, 1) := by decide +kernel
theorem dX5_count_67 : decode cX5_count 67 = .ok (.aload_n 2, 1) := by decide +kernel
theorem dX5_count_68 : decode cX5_count 68 = .ok (.getfield 221, 3) := by decide +kernel
theorem dX5_count_71 : decode cX5_count 71 = .ok (.invokestatic 126, 3) := by decide +kernel
theorem dX5_count_74 : decode cX5_count 74 = .ok (.ireturn, 1) := by decide +kernel
theorem dX5_count_75 : decode cX5_count 75 = .ok (.aload_n 2, 1) := by decide +kernel
theorem dX5_count_76 : decode cX5_count 76 = .ok (.getfield 224, 3) := by decide +kernel
theorem dX5_count_79 : decode cX5_count 79 = .ok (.invokestatic 126, 3) := by decide +kernel
theorem dX5_count_82 : decode cX5_count 82 = .ok (.ireturn, 1) := by decide +kernel
theorem dX5_count_83 : decode cX5_count 83 = .ok (.aload_n 0, 1) := by decide +kernel
theorem dX5_count_84 : decode cX5_count 84 = .ok (.getfield 26, 3) := by decide +kernel
theorem dX5_count_87 : decode cX5_count 87 = .ok (.getfield 227, 3) := by decide +kernel
theorem dX5_count_90 : decode cX5_count 90 = .ok (.ireturn, 1) := by decide +kernel
theorem dX5_count_91 : decode cX5_count 91 = .ok (.aload_n 0, 1) := by decide +kernel
theorem dX5_count_92 : decode cX5_count 92 = .ok (.getfield 41, 3) := by decide +kernel
theorem dX5_count_95 : decode cX5_count 95 = .ok (.ireturn, 1) := by decide +kernel
theorem dX5_count_96 : decode cX5_count 96 = .ok (.aload_n 2, 1) := by decide +kernel
theorem dX5_count_97 : decode cX5_count 97 = .ok (.getfield 230, 3) := by decide +kernel
theorem dX5_count_100 : decode cX5_count 100 = .ok (.invokestatic 126, 3) := by decide +kernel
theorem dX5_count_103 : decode cX5_count 103 = .ok (.ireturn, 1) := by decide +kernel
theorem dX5_count_104 : decode cX5_count 104 = .ok (.iconst (-1), 1) := by decide +kernel
theorem dX5_count_105 : decode cX5_count 105 = .ok (.ireturn, 1) := by decide +kernel
theorem dX5_twelfthsOf_0 : decode cX5_twelfthsOf 0 = .ok (.aload_n 0, 1) := by decide +kernel
theorem dX5_twelfthsOf_1 : decode cX5_twelfthsOf 1 = .ok (.getfield 10, 3) := by decide +kernel
theorem dX5_twelfthsOf_4 : decode cX5_twelfthsOf 4 = .ok (.getfield 79, 3) := by decide +kernel
theorem dX5_twelfthsOf_7 : decode cX5_twelfthsOf 7 = .ok (.iload_n 1, 1) := by decide +kernel
theorem dX5_twelfthsOf_8 : decode cX5_twelfthsOf 8 = .ok (.invokevirtual 152, 3) := by decide +kernel
theorem dX5_twelfthsOf_11 : decode cX5_twelfthsOf 11 = .ok (.istore_n 2, 1) := by decide +kernel
theorem dX5_twelfthsOf_12 : decode cX5_twelfthsOf 12 = .ok (.iconst 0, 1) := by decide +kernel
theorem dX5_twelfthsOf_13 : decode cX5_twelfthsOf 13 = .ok (.istore_n 3, 1) := by decide +kernel
theorem dX5_twelfthsOf_14 : decode cX5_twelfthsOf 14 = .ok (.iconst 0, 1) := by decide +kernel
theorem dX5_twelfthsOf_15 : decode cX5_twelfthsOf 15 = .ok (.istore 4, 2) := by decide +kernel
theorem dX5_twelfthsOf_17 : decode cX5_twelfthsOf 17 = .ok (.iconst 0, 1) := by decide +kernel
theorem dX5_twelfthsOf_18 : decode cX5_twelfthsOf 18 = .ok (.istore 5, 2) := by decide +kernel
theorem dX5_twelfthsOf_20 : decode cX5_twelfthsOf 20 = .ok (.iload 5, 2) := by decide +kernel
theorem dX5_twelfthsOf_22 : decode cX5_twelfthsOf 22 = .ok (.iconst 4, 1) := by decide +kernel
theorem dX5_twelfthsOf_23 : decode cX5_twelfthsOf 23 = .ok (.if_icmp .ge 44, 3) := by decide +kernel
theorem dX5_twelfthsOf_26 : decode cX5_twelfthsOf 26 = .ok (.aload_n 0, 1) := by decide +kernel
theorem dX5_twelfthsOf_27 : decode cX5_twelfthsOf 27 = .ok (.getfield 10, 3) := by decide +kernel
theorem dX5_twelfthsOf_30 : decode cX5_twelfthsOf 30 = .ok (.getfield 79, 3) := by decide +kernel
theorem dX5_twelfthsOf_33 : decode cX5_twelfthsOf 33 = .ok (.iload 5, 2) := by decide +kernel
theorem dX5_twelfthsOf_35 : decode cX5_twelfthsOf 35 = .ok (.invokevirtual 152, 3) := by decide +kernel
theorem dX5_twelfthsOf_38 : decode cX5_twelfthsOf 38 = .ok (.istore 6, 2) := by decide +kernel
theorem dX5_twelfthsOf_40 : decode cX5_twelfthsOf 40 = .ok (.iload 6, 2) := by decide +kernel
theorem dX5_twelfthsOf_42 : decode cX5_twelfthsOf 42 = .ok (.iload_n 2, 1) := by decide +kernel
theorem dX5_twelfthsOf_43 : decode cX5_twelfthsOf 43 = .ok (.if_icmp .le 9, 3) := by decide +kernel
theorem dX5_twelfthsOf_46 : decode cX5_twelfthsOf 46 = .ok (.iinc 3 1, 3) := by decide +kernel
theorem dX5_twelfthsOf_49 : decode cX5_twelfthsOf 49 = .ok (.goto 12, 3) := by decide +kernel
theorem dX5_twelfthsOf_52 : decode cX5_twelfthsOf 52 = .ok (.iload 6, 2) := by decide +kernel
theorem dX5_twelfthsOf_54 : decode cX5_twelfthsOf 54 = .ok (.iload_n 2, 1) := by decide +kernel
theorem dX5_twelfthsOf_55 : decode cX5_twelfthsOf 55 = .ok (.if_icmp .ne 6, 3) := by decide +kernel
theorem dX5_twelfthsOf_58 : decode cX5_twelfthsOf 58 = .ok (.iinc 4 1, 3) := by decide +kernel
theorem dX5_twelfthsOf_61 : decode cX5_twelfthsOf 61 = .ok (.iinc 5 1, 3) := by decide +kernel
theorem dX5_twelfthsOf_64 : decode cX5_twelfthsOf 64 = .ok (.goto (-44), 3) := by decide +kernel
theorem dX5_twelfthsOf_67 : decode cX5_twelfthsOf 67 = .ok (.iconst 0, 1) := by decide +kernel
theorem dX5_twelfthsOf_68 : decode cX5_twelfthsOf 68 = .ok (.istore 5, 2) := by decide +kernel
theorem dX5_twelfthsOf_70 : decode cX5_twelfthsOf 70 = .ok (.iload_n 3, 1) := by decide +kernel
theorem dX5_twelfthsOf_71 : decode cX5_twelfthsOf 71 = .ok (.istore 6, 2) := by decide +kernel
theorem dX5_twelfthsOf_73 : decode cX5_twelfthsOf 73 = .ok (.iload 6, 2) := by decide +kernel
theorem dX5_twelfthsOf_75 : decode cX5_twelfthsOf 75 = .ok (.iload_n 3, 1) := by decide +kernel
theorem dX5_twelfthsOf_76 : decode cX5_twelfthsOf 76 = .ok (.iload 4, 2) := by decide +kernel
theorem dX5_twelfthsOf_78 : decode cX5_twelfthsOf 78 = .ok (.iadd, 1) := by decide +kernel
theorem dX5_twelfthsOf_79 : decode cX5_twelfthsOf 79 = .ok (.if_icmp .ge 26, 3) := by decide +kernel
theorem dX5_twelfthsOf_82 : decode cX5_twelfthsOf 82 = .ok (.iload 6, 2) := by decide +kernel
theorem dX5_twelfthsOf_84 : decode cX5_twelfthsOf 84 = .ok (.iconst 4, 1) := by decide +kernel
theorem dX5_twelfthsOf_85 : decode cX5_twelfthsOf 85 = .ok (.if_icmp .ge 20, 3) := by decide +kernel
theorem dX5_twelfthsOf_88 : decode cX5_twelfthsOf 88 = .ok (.iload 5, 2) := by decide +kernel
theorem dX5_twelfthsOf_90 : decode cX5_twelfthsOf 90 = .ok (.getstatic 233, 3) := by decide +kernel
theorem dX5_twelfthsOf_93 : decode cX5_twelfthsOf 93 = .ok (.iload 6, 2) := by decide +kernel
theorem dX5_twelfthsOf_95 : decode cX5_twelfthsOf 95 = .ok (.iaload, 1) := by decide +kernel
theorem dX5_twelfthsOf_96 : decode cX5_twelfthsOf 96 = .ok (.iadd, 1) := by decide +kernel
theorem dX5_twelfthsOf_97 : decode cX5_twelfthsOf 97 = .ok (.istore 5, 2) := by decide +kernel
theorem dX5_twelfthsOf_99 : decode cX5_twelfthsOf 99 = .ok (.iinc 6 1, 3) := by decide +kernel
theorem dX5_twelfthsOf_102 : decode cX5_twelfthsOf 102 = .ok (.goto (-29), 3) := by decide +kernel
theorem dX5_twelfthsOf_105 : decode cX5_twelfthsOf 105 = .ok (.iload 4, 2) := by decide +kernel
theorem dX5_twelfthsOf_107 : decode cX5_twelfthsOf 107 = .ok (.ifCond .ne 7, 3) := by decide +kernel
theorem dX5_twelfthsOf_110 : decode cX5_twelfthsOf 110 = .ok (.iconst 0, 1) := by decide +kernel
theorem dX5_twelfthsOf_111 : decode cX5_twelfthsOf 111 = .ok (.goto 8, 3) := by decide +kernel
theorem dX5_twelfthsOf_114 : decode cX5_twelfthsOf 114 = .ok (.iload 5, 2) := by decide +kernel
theorem dX5_twelfthsOf_116 : decode cX5_twelfthsOf 116 = .ok (.iload 4, 2) := by decide +kernel
theorem dX5_twelfthsOf_118 : decode cX5_twelfthsOf 118 = .ok (.idiv, 1) := by decide +kernel
theorem dX5_twelfthsOf_119 : decode cX5_twelfthsOf 119 = .ok (.ireturn, 1) := by decide +kernel
theorem dX5_within_0 : decode cX5_within 0 = .ok (.iload_n 0, 1) := by decide +kernel
theorem dX5_within_1 : decode cX5_within 1 = .ok (.iload_n 1, 1) := by decide +kernel
theorem dX5_within_2 : decode cX5_within 2 = .ok (.if_icmp .lt 12, 3) := by decide +kernel
theorem dX5_within_5 : decode cX5_within 5 = .ok (.iload_n 0, 1) := by decide +kernel
theorem dX5_within_6 : decode cX5_within 6 = .ok (.iload_n 2, 1) := by decide +kernel
theorem dX5_within_7 : decode cX5_within 7 = .ok (.if_icmp .gt 7, 3) := by decide +kernel
theorem dX5_within_10 : decode cX5_within 10 = .ok (.iconst 1, 1) := by decide +kernel
theorem dX5_within_11 : decode cX5_within 11 = .ok (.goto 4, 3) := by decide +kernel
theorem dX5_within_14 : decode cX5_within 14 = .ok (.iconst 0, 1) := by decide +kernel
theorem dX5_within_15 : decode cX5_within 15 = .ok (.ireturn, 1) := by decide +kernel
theorem dX5_isPlayer_0 : decode cX5_isPlayer 0 = .ok (.iload_n 0, 1) := by decide +kernel
theorem dX5_isPlayer_1 : decode cX5_isPlayer 1 = .ok (.iconst 0, 1) := by decide +kernel
theorem dX5_isPlayer_2 : decode cX5_isPlayer 2 = .ok (.iconst 3, 1) := by decide +kernel
theorem dX5_isPlayer_3 : decode cX5_isPlayer 3 = .ok (.invokestatic 51, 3) := by decide +kernel
theorem dX5_isPlayer_6 : decode cX5_isPlayer 6 = .ok (.ireturn, 1) := by decide +kernel
theorem dX5_isDisc_0 : decode cX5_isDisc 0 = .ok (.iload_n 0, 1) := by decide +kernel
theorem dX5_isDisc_1 : decode cX5_isDisc 1 = .ok (.iconst 0, 1) := by decide +kernel
theorem dX5_isDisc_2 : decode cX5_isDisc 2 = .ok (.bipush 15, 2) := by decide +kernel
theorem dX5_isDisc_4 : decode cX5_isDisc 4 = .ok (.invokestatic 51, 3) := by decide +kernel
theorem dX5_isDisc_7 : decode cX5_isDisc 7 = .ok (.ireturn, 1) := by decide +kernel
theorem dX5_isPlace_0 : decode cX5_isPlace 0 = .ok (.iload_n 0, 1) := by decide +kernel
theorem dX5_isPlace_1 : decode cX5_isPlace 1 = .ok (.iconst 0, 1) := by decide +kernel
theorem dX5_isPlace_2 : decode cX5_isPlace 2 = .ok (.bipush 40, 2) := by decide +kernel
theorem dX5_isPlace_4 : decode cX5_isPlace 4 = .ok (.invokestatic 51, 3) := by decide +kernel
theorem dX5_isPlace_7 : decode cX5_isPlace 7 = .ok (.ifCond .eq 17, 3) := by decide +kernel
theorem dX5_isPlace_10 : decode cX5_isPlace 10 = .ok (.iload_n 1, 1) := by decide +kernel
theorem dX5_isPlace_11 : decode cX5_isPlace 11 = .ok (.iconst 0, 1) := by decide +kernel
theorem dX5_isPlace_12 : decode cX5_isPlace 12 = .ok (.bipush 40, 2) := by decide +kernel
theorem dX5_isPlace_14 : decode cX5_isPlace 14 = .ok (.invokestatic 51, 3) := by decide +kernel
theorem dX5_isPlace_17 : decode cX5_isPlace 17 = .ok (.ifCond .eq 7, 3) := by decide +kernel
theorem dX5_isPlace_20 : decode cX5_isPlace 20 = .ok (.iconst 1, 1) := by decide +kernel
theorem dX5_isPlace_21 : decode cX5_isPlace 21 = .ok (.goto 4, 3) := by decide +kernel
theorem dX5_isPlace_24 : decode cX5_isPlace 24 = .ok (.iconst 0, 1) := by decide +kernel
theorem dX5_isPlace_25 : decode cX5_isPlace 25 = .ok (.ireturn, 1) := by decide +kernel
theorem dX5_isMarkOrPlace_0 : decode cX5_isMarkOrPlace 0 = .ok (.iload_n 0, 1) := by decide +kernel
theorem dX5_isMarkOrPlace_1 : decode cX5_isMarkOrPlace 1 = .ok (.iload_n 1, 1) := by decide +kernel
theorem dX5_isMarkOrPlace_2 : decode cX5_isMarkOrPlace 2 = .ok (.invokestatic 117, 3) := by decide +kernel
theorem dX5_isMarkOrPlace_5 : decode cX5_isMarkOrPlace 5 = .ok (.ifCond .ne 19, 3) := by decide +kernel
theorem dX5_isMarkOrPlace_8 : decode cX5_isMarkOrPlace 8 = .ok (.iload_n 0, 1) := by decide +kernel
theorem dX5_isMarkOrPlace_9 : decode cX5_isMarkOrPlace 9 = .ok (.iload_n 1, 1) := by decide +kernel
theorem dX5_isMarkOrPlace_10 : decode cX5_isMarkOrPlace 10 = .ok (.if_icmp .ne 18, 3) := by decide +kernel
theorem dX5_isMarkOrPlace_13 : decode cX5_isMarkOrPlace 13 = .ok (.iload_n 0, 1) := by decide +kernel
theorem dX5_isMarkOrPlace_14 : decode cX5_isMarkOrPlace 14 = .ok (.iconst (-1), 1) := by decide +kernel
theorem dX5_isMarkOrPlace_15 : decode cX5_isMarkOrPlace 15 = .ok (.if_icmp .eq 9, 3) := by decide +kernel
theorem dX5_isMarkOrPlace_18 : decode cX5_isMarkOrPlace 18 = .ok (.iload_n 0, 1) := by decide +kernel
theorem dX5_isMarkOrPlace_19 : decode cX5_isMarkOrPlace 19 = .ok (.bipush 41, 2) := by decide +kernel
theorem dX5_isMarkOrPlace_21 : decode cX5_isMarkOrPlace 21 = .ok (.if_icmp .ne 7, 3) := by decide +kernel
theorem dX5_isMarkOrPlace_24 : decode cX5_isMarkOrPlace 24 = .ok (.iconst 1, 1) := by decide +kernel
theorem dX5_isMarkOrPlace_25 : decode cX5_isMarkOrPlace 25 = .ok (.goto 4, 3) := by decide +kernel
theorem dX5_isMarkOrPlace_28 : decode cX5_isMarkOrPlace 28 = .ok (.iconst 0, 1) := by decide +kernel
theorem dX5_isMarkOrPlace_29 : decode cX5_isMarkOrPlace 29 = .ok (.ireturn, 1) := by decide +kernel
theorem dX5_playerOf_0 : decode cX5_playerOf 0 = .ok (.iload_n 0, 1) := by decide +kernel
theorem dX5_playerOf_1 : decode cX5_playerOf 1 = .ok (.iconst 4, 1) := by decide +kernel
theorem dX5_playerOf_2 : decode cX5_playerOf 2 = .ok (.irem, 1) := by decide +kernel
theorem dX5_playerOf_3 : decode cX5_playerOf 3 = .ok (.ireturn, 1) := by decide +kernel
theorem dX5_sizeOf_0 : decode cX5_sizeOf 0 = .ok (.iload_n 0, 1) := by decide +kernel
theorem dX5_sizeOf_1 : decode cX5_sizeOf 1 = .ok (.bipush 8, 2) := by decide +kernel
theorem dX5_sizeOf_3 : decode cX5_sizeOf 3 = .ok (.if_icmp .ge 7, 3) := by decide +kernel
theorem dX5_sizeOf_6 : decode cX5_sizeOf 6 = .ok (.iconst 1, 1) := by decide +kernel
theorem dX5_sizeOf_7 : decode cX5_sizeOf 7 = .ok (.goto 4, 3) := by decide +kernel
theorem dX5_sizeOf_10 : decode cX5_sizeOf 10 = .ok (.iconst 2, 1) := by decide +kernel
theorem dX5_sizeOf_11 : decode cX5_sizeOf 11 = .ok (.ireturn, 1) := by decide +kernel
theorem dX5_wayBetween_0 : decode cX5_wayBetween 0 = .ok (.iload_n 2, 1) := by decide +kernel
theorem dX5_wayBetween_1 : decode cX5_wayBetween 1 = .ok (.iload_n 0, 1) := by decide +kernel
theorem dX5_wayBetween_2 : decode cX5_wayBetween 2 = .ok (.isub, 1) := by decide +kernel
theorem dX5_wayBetween_3 : decode cX5_wayBetween 3 = .ok (.invokestatic 204, 3) := by decide +kernel
theorem dX5_wayBetween_6 : decode cX5_wayBetween 6 = .ok (.iload_n 3, 1) := by decide +kernel
theorem dX5_wayBetween_7 : decode cX5_wayBetween 7 = .ok (.iload_n 1, 1) := by decide +kernel
theorem dX5_wayBetween_8 : decode cX5_wayBetween 8 = .ok (.isub, 1) := by decide +kernel
theorem dX5_wayBetween_9 : decode cX5_wayBetween 9 = .ok (.invokestatic 204, 3) := by decide +kernel
theorem dX5_wayBetween_12 : decode cX5_wayBetween 12 = .ok (.invokestatic 236, 3) := by decide +kernel
theorem dX5_wayBetween_15 : decode cX5_wayBetween 15 = .ok (.ireturn, 1) := by decide +kernel
theorem dJ6_bitCount_0f7a4_0 : decode cJ6_bitCount_0f7a4 0 = .ok (.iload_n 0, 1) := by decide +kernel
theorem dJ6_bitCount_0f7a4_1 : decode cJ6_bitCount_0f7a4 1 = .ok (.iload_n 0, 1) := by decide +kernel
theorem dJ6_bitCount_0f7a4_2 : decode cJ6_bitCount_0f7a4 2 = .ok (.iconst 1, 1) := by decide +kernel
theorem dJ6_bitCount_0f7a4_3 : decode cJ6_bitCount_0f7a4 3 = .ok (.iushr, 1) := by decide +kernel
theorem dJ6_bitCount_0f7a4_4 : decode cJ6_bitCount_0f7a4 4 = .ok (.ldc_w 265, 3) := by decide +kernel
theorem dJ6_bitCount_0f7a4_7 : decode cJ6_bitCount_0f7a4 7 = .ok (.iand, 1) := by decide +kernel
theorem dJ6_bitCount_0f7a4_8 : decode cJ6_bitCount_0f7a4 8 = .ok (.isub, 1) := by decide +kernel
theorem dJ6_bitCount_0f7a4_9 : decode cJ6_bitCount_0f7a4 9 = .ok (.istore_n 0, 1) := by decide +kernel
theorem dJ6_bitCount_0f7a4_10 : decode cJ6_bitCount_0f7a4 10 = .ok (.iload_n 0, 1) := by decide +kernel
theorem dJ6_bitCount_0f7a4_11 : decode cJ6_bitCount_0f7a4 11 = .ok (.ldc_w 266, 3) := by decide +kernel
theorem dJ6_bitCount_0f7a4_14 : decode cJ6_bitCount_0f7a4 14 = .ok (.iand, 1) := by decide +kernel
theorem dJ6_bitCount_0f7a4_15 : decode cJ6_bitCount_0f7a4 15 = .ok (.iload_n 0, 1) := by decide +kernel
theorem dJ6_bitCount_0f7a4_16 : decode cJ6_bitCount_0f7a4 16 = .ok (.iconst 2, 1) := by decide +kernel
theorem dJ6_bitCount_0f7a4_17 : decode cJ6_bitCount_0f7a4 17 = .ok (.iushr, 1) := by decide +kernel
theorem dJ6_bitCount_0f7a4_18 : decode cJ6_bitCount_0f7a4 18 = .ok (.ldc_w 266, 3) := by decide +kernel
theorem dJ6_bitCount_0f7a4_21 : decode cJ6_bitCount_0f7a4 21 = .ok (.iand, 1) := by decide +kernel
theorem dJ6_bitCount_0f7a4_22 : decode cJ6_bitCount_0f7a4 22 = .ok (.iadd, 1) := by decide +kernel
theorem dJ6_bitCount_0f7a4_23 : decode cJ6_bitCount_0f7a4 23 = .ok (.istore_n 0, 1) := by decide +kernel
theorem dJ6_bitCount_0f7a4_24 : decode cJ6_bitCount_0f7a4 24 = .ok (.iload_n 0, 1) := by decide +kernel
theorem dJ6_bitCount_0f7a4_25 : decode cJ6_bitCount_0f7a4 25 = .ok (.iload_n 0, 1) := by decide +kernel
theorem dJ6_bitCount_0f7a4_26 : decode cJ6_bitCount_0f7a4 26 = .ok (.iconst 4, 1) := by decide +kernel
theorem dJ6_bitCount_0f7a4_27 : decode cJ6_bitCount_0f7a4 27 = .ok (.iushr, 1) := by decide +kernel
theorem dJ6_bitCount_0f7a4_28 : decode cJ6_bitCount_0f7a4 28 = .ok (.iadd, 1) := by decide +kernel
theorem dJ6_bitCount_0f7a4_29 : decode cJ6_bitCount_0f7a4 29 = .ok (.ldc_w 267, 3) := by decide +kernel
theorem dJ6_bitCount_0f7a4_32 : decode cJ6_bitCount_0f7a4 32 = .ok (.iand, 1) := by decide +kernel
theorem dJ6_bitCount_0f7a4_33 : decode cJ6_bitCount_0f7a4 33 = .ok (.istore_n 0, 1) := by decide +kernel
theorem dJ6_bitCount_0f7a4_34 : decode cJ6_bitCount_0f7a4 34 = .ok (.iload_n 0, 1) := by decide +kernel
theorem dJ6_bitCount_0f7a4_35 : decode cJ6_bitCount_0f7a4 35 = .ok (.iload_n 0, 1) := by decide +kernel
theorem dJ6_bitCount_0f7a4_36 : decode cJ6_bitCount_0f7a4 36 = .ok (.bipush 8, 2) := by decide +kernel
theorem dJ6_bitCount_0f7a4_38 : decode cJ6_bitCount_0f7a4 38 = .ok (.iushr, 1) := by decide +kernel
theorem dJ6_bitCount_0f7a4_39 : decode cJ6_bitCount_0f7a4 39 = .ok (.iadd, 1) := by decide +kernel
theorem dJ6_bitCount_0f7a4_40 : decode cJ6_bitCount_0f7a4 40 = .ok (.istore_n 0, 1) := by decide +kernel
theorem dJ6_bitCount_0f7a4_41 : decode cJ6_bitCount_0f7a4 41 = .ok (.iload_n 0, 1) := by decide +kernel
theorem dJ6_bitCount_0f7a4_42 : decode cJ6_bitCount_0f7a4 42 = .ok (.iload_n 0, 1) := by decide +kernel
theorem dJ6_bitCount_0f7a4_43 : decode cJ6_bitCount_0f7a4 43 = .ok (.bipush 16, 2) := by decide +kernel
theorem dJ6_bitCount_0f7a4_45 : decode cJ6_bitCount_0f7a4 45 = .ok (.iushr, 1) := by decide +kernel
theorem dJ6_bitCount_0f7a4_46 : decode cJ6_bitCount_0f7a4 46 = .ok (.iadd, 1) := by decide +kernel
theorem dJ6_bitCount_0f7a4_47 : decode cJ6_bitCount_0f7a4 47 = .ok (.istore_n 0, 1) := by decide +kernel
theorem dJ6_bitCount_0f7a4_48 : decode cJ6_bitCount_0f7a4 48 = .ok (.iload_n 0, 1) := by decide +kernel
theorem dJ6_bitCount_0f7a4_49 : decode cJ6_bitCount_0f7a4 49 = .ok (.bipush 63, 2) := by decide +kernel
theorem dJ6_bitCount_0f7a4_51 : decode cJ6_bitCount_0f7a4 51 = .ok (.iand, 1) := by decide +kernel
theorem dJ6_bitCount_0f7a4_52 : decode cJ6_bitCount_0f7a4 52 = .ok (.ireturn, 1) := by decide +kernel
end
section
theorem dX6_init_0 : decode cX6_init 0 = .ok (.aload_n 0, 1) := by decide +kernel
theorem dX6_init_1 : decode cX6_init 1 = .ok (.invokespecial 1, 3) := by decide +kernel
theorem dX6_init_4 : decode cX6_init 4 = .ok (.aload_n 0, 1) := by decide +kernel
theorem dX6_init_5 : decode cX6_init 5 = .ok (.sipush 128, 3) := by decide +kernel
theorem dX6_init_8 : decode cX6_init 8 = .ok (.newarray .int, 2) := by decide +kernel
theorem dX6_init_10 : decode cX6_init 10 = .ok (.putfield 7, 3) := by decide +kernel
theorem dX6_init_13 : decode cX6_init 13 = .ok (.aload_n 0, 1) := by decide +kernel
theorem dX6_init_14 : decode cX6_init 14 = .ok (.sipush 128, 3) := by decide +kernel
theorem dX6_init_17 : decode cX6_init 17 = .ok (.newarray .int, 2) := by decide +kernel
theorem dX6_init_19 : decode cX6_init 19 = .ok (.putfield 13, 3) := by decide +kernel
theorem dX6_init_22 : decode cX6_init 22 = .ok (.aload_n 0, 1) := by decide +kernel
theorem dX6_init_23 : decode cX6_init 23 = .ok (.sipush 384, 3) := by decide +kernel
theorem dX6_init_26 : decode cX6_init 26 = .ok (.newarray .int, 2) := by decide +kernel
theorem dX6_init_28 : decode cX6_init 28 = .ok (.putfield 16, 3) := by decide +kernel
theorem dX6_init_31 : decode cX6_init 31 = .ok (.aload_n 0, 1) := by decide +kernel
theorem dX6_init_32 : decode cX6_init 32 = .ok (.bipush 24, 2) := by decide +kernel
theorem dX6_init_34 : decode cX6_init 34 = .ok (.newarray .int, 2) := by decide +kernel
theorem dX6_init_36 : decode cX6_init 36 = .ok (.putfield 19, 3) := by decide +kernel
theorem dX6_init_39 : decode cX6_init 39 = .ok (.aload_n 0, 1) := by decide +kernel
theorem dX6_init_40 : decode cX6_init 40 = .ok (.bipush 24, 2) := by decide +kernel
theorem dX6_init_42 : decode cX6_init 42 = .ok (.newarray .int, 2) := by decide +kernel
theorem dX6_init_44 : decode cX6_init 44 = .ok (.putfield 22, 3) := by decide +kernel
theorem dX6_init_47 : decode cX6_init 47 = .ok (.aload_n 0, 1) := by decide +kernel
theorem dX6_init_48 : decode cX6_init 48 = .ok (.bipush 24, 2) := by decide +kernel
theorem dX6_init_50 : decode cX6_init 50 = .ok (.newarray .int, 2) := by decide +kernel
theorem dX6_init_52 : decode cX6_init 52 = .ok (.putfield 25, 3) := by decide +kernel
theorem dX6_init_55 : decode cX6_init 55 = .ok (.aload_n 0, 1) := by decide +kernel
theorem dX6_init_56 : decode cX6_init 56 = .ok (.bipush 20, 2) := by decide +kernel
theorem dX6_init_58 : decode cX6_init 58 = .ok (.newarray .int, 2) := by decide +kernel
theorem dX6_init_60 : decode cX6_init 60 = .ok (.putfield 28, 3) := by decide +kernel
theorem dX6_init_63 : decode cX6_init 63 = .ok (.aload_n 0, 1) := by decide +kernel
theorem dX6_init_64 : decode cX6_init 64 = .ok (.bipush 20, 2) := by decide +kernel
theorem dX6_init_66 : decode cX6_init 66 = .ok (.newarray .int, 2) := by decide +kernel
theorem dX6_init_68 : decode cX6_init 68 = .ok (.putfield 31, 3) := by decide +kernel
theorem dX6_init_71 : decode cX6_init 71 = .ok (.aload_n 0, 1) := by decide +kernel
theorem dX6_init_72 : decode cX6_init 72 = .ok (.getfield 7, 3) := by decide +kernel
theorem dX6_init_75 : decode cX6_init 75 = .ok (.bipush 71, 2) := by decide +kernel
theorem dX6_init_77 : decode cX6_init 77 = .ok (.bipush 100, 2) := by decide +kernel
theorem dX6_init_79 : decode cX6_init 79 = .ok (.iastore, 1) := by decide +kernel
theorem dX6_init_80 : decode cX6_init 80 = .ok (.aload_n 0, 1) := by decide +kernel
theorem dX6_init_81 : decode cX6_init 81 = .ok (.getfield 7, 3) := by decide +kernel
theorem dX6_init_84 : decode cX6_init 84 = .ok (.bipush 72, 2) := by decide +kernel
theorem dX6_init_86 : decode cX6_init 86 = .ok (.iconst 1, 1) := by decide +kernel
theorem dX6_init_87 : decode cX6_init 87 = .ok (.iastore, 1) := by decide +kernel
theorem dX6_init_88 : decode cX6_init 88 = .ok (.aload_n 0, 1) := by decide +kernel
theorem dX6_init_89 : decode cX6_init 89 = .ok (.invokevirtual 34, 3) := by decide +kernel
theorem dX6_init_92 : decode cX6_init 92 = .ok (.return_, 1) := by decide +kernel
theorem dX6_in_0 : decode cX6_in 0 = .ok (.iload_n 0, 1) := by decide +kernel
theorem dX6_in_1 : decode cX6_in 1 = .ok (.iload_n 1, 1) := by decide +kernel
theorem dX6_in_2 : decode cX6_in 2 = .ok (.if_icmp .lt 12, 3) := by decide +kernel
theorem dX6_in_5 : decode cX6_in 5 = .ok (.iload_n 0, 1) := by decide +kernel
theorem dX6_in_6 : decode cX6_in 6 = .ok (.iload_n 2, 1) := by decide +kernel
theorem dX6_in_7 : decode cX6_in 7 = .ok (.if_icmp .gt 7, 3) := by decide +kernel
theorem dX6_in_10 : decode cX6_in 10 = .ok (.iconst 1, 1) := by decide +kernel
theorem dX6_in_11 : decode cX6_in 11 = .ok (.goto 4, 3) := by decide +kernel
theorem dX6_in_14 : decode cX6_in 14 = .ok (.iconst 0, 1) := by decide +kernel
theorem dX6_in_15 : decode cX6_in 15 = .ok (.ireturn, 1) := by decide +kernel
theorem dX6_size_0 : decode cX6_size 0 = .ok (.iload_n 0, 1) := by decide +kernel
theorem dX6_size_1 : decode cX6_size 1 = .ok (.ifCond .ge 8, 3) := by decide +kernel
theorem dX6_size_4 : decode cX6_size 4 = .ok (.iload_n 0, 1) := by decide +kernel
theorem dX6_size_5 : decode cX6_size 5 = .ok (.ineg, 1) := by decide +kernel
theorem dX6_size_6 : decode cX6_size 6 = .ok (.goto 4, 3) := by decide +kernel
theorem dX6_size_9 : decode cX6_size 9 = .ok (.iload_n 0, 1) := by decide +kernel
theorem dX6_size_10 : decode cX6_size 10 = .ok (.ireturn, 1) := by decide +kernel
theorem dX6_sign_0 : decode cX6_sign 0 = .ok (.iload_n 0, 1) := by decide +kernel
theorem dX6_sign_1 : decode cX6_sign 1 = .ok (.ifCond .le 7, 3) := by decide +kernel
theorem dX6_sign_4 : decode cX6_sign 4 = .ok (.iconst 1, 1) := by decide +kernel
theorem dX6_sign_5 : decode cX6_sign 5 = .ok (.goto 12, 3) := by decide +kernel
theorem dX6_sign_8 : decode cX6_sign 8 = .ok (.iload_n 0, 1) := by decide +kernel
theorem dX6_sign_9 : decode cX6_sign 9 = .ok (.ifCond .ge 7, 3) := by decide +kernel
theorem dX6_sign_12 : decode cX6_sign 12 = .ok (.iconst (-1), 1) := by decide +kernel
theorem dX6_sign_13 : decode cX6_sign 13 = .ok (.goto 4, 3) := by decide +kernel
theorem dX6_sign_16 : decode cX6_sign 16 = .ok (.iconst 0, 1) := by decide +kernel
theorem dX6_sign_17 : decode cX6_sign 17 = .ok (.ireturn, 1) := by decide +kernel
theorem dX6_at_0 : decode cX6_at 0 = .ok (.aload_n 0, 1) := by decide +kernel
theorem dX6_at_1 : decode cX6_at 1 = .ok (.getfield 37, 3) := by decide +kernel
theorem dX6_at_4 : decode cX6_at 4 = .ok (.ifCond .eq 12, 3) := by decide +kernel
theorem dX6_at_7 : decode cX6_at 7 = .ok (.aload_n 0, 1) := by decide +kernel
theorem dX6_at_8 : decode cX6_at 8 = .ok (.getfield 13, 3) := by decide +kernel
theorem dX6_at_11 : decode cX6_at 11 = .ok (.iload_n 1, 1) := by decide +kernel
theorem dX6_at_12 : decode cX6_at 12 = .ok (.iaload, 1) := by decide +kernel
theorem dX6_at_13 : decode cX6_at 13 = .ok (.goto 9, 3) := by decide +kernel
theorem dX6_at_16 : decode cX6_at 16 = .ok (.aload_n 0, 1) := by decide +kernel
theorem dX6_at_17 : decode cX6_at 17 = .ok (.getfield 7, 3) := by decide +kernel
theorem dX6_at_20 : decode cX6_at 20 = .ok (.iload_n 1, 1) := by decide +kernel
theorem dX6_at_21 : decode cX6_at 21 = .ok (.iaload, 1) := by decide +kernel
theorem dX6_at_22 : decode cX6_at 22 = .ok (.ireturn, 1) := by decide +kernel
theorem dX6_lay_0 : decode cX6_lay 0 = .ok (.aload_n 0, 1) := by decide +kernel
theorem dX6_lay_1 : decode cX6_lay 1 = .ok (.getfield 37, 3) := by decide +kernel
theorem dX6_lay_4 : decode cX6_lay 4 = .ok (.ifCond .eq 13, 3) := by decide +kernel
theorem dX6_lay_7 : decode cX6_lay 7 = .ok (.aload_n 0, 1) := by decide +kernel
theorem dX6_lay_8 : decode cX6_lay 8 = .ok (.getfield 13, 3) := by decide +kernel
theorem dX6_lay_11 : decode cX6_lay 11 = .ok (.iload_n 1, 1) := by decide +kernel
theorem dX6_lay_12 : decode cX6_lay 12 = .ok (.iload_n 2, 1) := by decide +kernel
theorem dX6_lay_13 : decode cX6_lay 13 = .ok (.iastore, 1) := by decide +kernel
theorem dX6_lay_14 : decode cX6_lay 14 = .ok (.goto 10, 3) := by decide +kernel
theorem dX6_lay_17 : decode cX6_lay 17 = .ok (.aload_n 0, 1) := by decide +kernel
theorem dX6_lay_18 : decode cX6_lay 18 = .ok (.getfield 7, 3) := by decide +kernel
theorem dX6_lay_21 : decode cX6_lay 21 = .ok (.iload_n 1, 1) := by decide +kernel
theorem dX6_lay_22 : decode cX6_lay 22 = .ok (.iload_n 2, 1) := by decide +kernel
theorem dX6_lay_23 : decode cX6_lay 23 = .ok (.iastore, 1) := by decide +kernel
theorem dX6_lay_24 : decode cX6_lay 24 = .ok (.return_, 1) := by decide +kernel
theorem dX6_how_0 : decode cX6_how 0 = .ok (.aload_n 0, 1) := by decide +kernel
theorem dX6_how_1 : decode cX6_how 1 = .ok (.iload_n 1, 1) := by decide +kernel
theorem dX6_how_2 : decode cX6_how 2 = .ok (.invokevirtual 41, 3) := by decide +kernel
theorem dX6_how_5 : decode cX6_how 5 = .ok (.ireturn, 1) := by decide +kernel
theorem dX6_baseX_0 : decode cX6_baseX 0 = .ok (.iload_n 0, 1) := by decide +kernel
theorem dX6_baseX_1 : decode cX6_baseX 1 = .ok (.iconst 1, 1) := by decide +kernel
theorem dX6_baseX_2 : decode cX6_baseX 2 = .ok (.if_icmp .eq 8, 3) := by decide +kernel
theorem dX6_baseX_5 : decode cX6_baseX 5 = .ok (.iload_n 0, 1) := by decide +kernel
theorem dX6_baseX_6 : decode cX6_baseX 6 = .ok (.iconst 2, 1) := by decide +kernel
theorem dX6_baseX_7 : decode cX6_baseX 7 = .ok (.if_icmp .ne 8, 3) := by decide +kernel
theorem dX6_baseX_10 : decode cX6_baseX 10 = .ok (.bipush 40, 2) := by decide +kernel
theorem dX6_baseX_12 : decode cX6_baseX 12 = .ok (.goto 4, 3) := by decide +kernel
theorem dX6_baseX_15 : decode cX6_baseX 15 = .ok (.iconst 0, 1) := by decide +kernel
theorem dX6_baseX_16 : decode cX6_baseX 16 = .ok (.ireturn, 1) := by decide +kernel
theorem dX6_baseY_0 : decode cX6_baseY 0 = .ok (.iload_n 0, 1) := by decide +kernel
theorem dX6_baseY_1 : decode cX6_baseY 1 = .ok (.iconst 2, 1) := by decide +kernel
theorem dX6_baseY_2 : decode cX6_baseY 2 = .ok (.if_icmp .lt 8, 3) := by decide +kernel
theorem dX6_baseY_5 : decode cX6_baseY 5 = .ok (.bipush 40, 2) := by decide +kernel
theorem dX6_baseY_7 : decode cX6_baseY 7 = .ok (.goto 4, 3) := by decide +kernel
theorem dX6_baseY_10 : decode cX6_baseY 10 = .ok (.iconst 0, 1) := by decide +kernel
theorem dX6_baseY_11 : decode cX6_baseY 11 = .ok (.ireturn, 1) := by decide +kernel
theorem dX6_xOf_0 : decode cX6_xOf 0 = .ok (.aload_n 0, 1) := by decide +kernel
theorem dX6_xOf_1 : decode cX6_xOf 1 = .ok (.iload_n 1, 1) := by decide +kernel
theorem dX6_xOf_2 : decode cX6_xOf 2 = .ok (.invokevirtual 45, 3) := by decide +kernel
theorem dX6_xOf_5 : decode cX6_xOf 5 = .ok (.ifCond .ne 12, 3) := by decide +kernel
theorem dX6_xOf_8 : decode cX6_xOf 8 = .ok (.iload_n 1, 1) := by decide +kernel
theorem dX6_xOf_9 : decode cX6_xOf 9 = .ok (.iconst 4, 1) := by decide +kernel
theorem dX6_xOf_10 : decode cX6_xOf 10 = .ok (.irem, 1) := by decide +kernel
theorem dX6_xOf_11 : decode cX6_xOf 11 = .ok (.invokestatic 48, 3) := by decide +kernel
theorem dX6_xOf_14 : decode cX6_xOf 14 = .ok (.goto 25, 3) := by decide +kernel
theorem dX6_xOf_17 : decode cX6_xOf 17 = .ok (.aload_n 0, 1) := by decide +kernel
theorem dX6_xOf_18 : decode cX6_xOf 18 = .ok (.iload_n 1, 1) := by decide +kernel
theorem dX6_xOf_19 : decode cX6_xOf 19 = .ok (.invokevirtual 45, 3) := by decide +kernel
theorem dX6_xOf_22 : decode cX6_xOf 22 = .ok (.iconst 2, 1) := by decide +kernel
theorem dX6_xOf_23 : decode cX6_xOf 23 = .ok (.if_icmp .ne 8, 3) := by decide +kernel
theorem dX6_xOf_26 : decode cX6_xOf 26 = .ok (.bipush 41, 2) := by decide +kernel
theorem dX6_xOf_28 : decode cX6_xOf 28 = .ok (.goto 11, 3) := by decide +kernel
theorem dX6_xOf_31 : decode cX6_xOf 31 = .ok (.aload_n 0, 1) := by decide +kernel
theorem dX6_xOf_32 : decode cX6_xOf 32 = .ok (.bipush 16, 2) := by decide +kernel
theorem dX6_xOf_34 : decode cX6_xOf 34 = .ok (.iload_n 1, 1) := by decide +kernel
theorem dX6_xOf_35 : decode cX6_xOf 35 = .ok (.iadd, 1) := by decide +kernel
theorem dX6_xOf_36 : decode cX6_xOf 36 = .ok (.invokevirtual 41, 3) := by decide +kernel
theorem dX6_xOf_39 : decode cX6_xOf 39 = .ok (.ireturn, 1) := by decide +kernel
theorem dX6_yOf_0 : decode cX6_yOf 0 = .ok (.aload_n 0, 1) := by decide +kernel
theorem dX6_yOf_1 : decode cX6_yOf 1 = .ok (.iload_n 1, 1) := by decide +kernel
theorem dX6_yOf_2 : decode cX6_yOf 2 = .ok (.invokevirtual 45, 3) := by decide +kernel
theorem dX6_yOf_5 : decode cX6_yOf 5 = .ok (.ifCond .ne 12, 3) := by decide +kernel
theorem dX6_yOf_8 : decode cX6_yOf 8 = .ok (.iload_n 1, 1) := by decide +kernel
theorem dX6_yOf_9 : decode cX6_yOf 9 = .ok (.iconst 4, 1) := by decide +kernel
theorem dX6_yOf_10 : decode cX6_yOf 10 = .ok (.irem, 1) := by decide +kernel
theorem dX6_yOf_11 : decode cX6_yOf 11 = .ok (.invokestatic 51, 3) := by decide +kernel
theorem dX6_yOf_14 : decode cX6_yOf 14 = .ok (.goto 25, 3) := by decide +kernel
theorem dX6_yOf_17 : decode cX6_yOf 17 = .ok (.aload_n 0, 1) := by decide +kernel
theorem dX6_yOf_18 : decode cX6_yOf 18 = .ok (.iload_n 1, 1) := by decide +kernel
theorem dX6_yOf_19 : decode cX6_yOf 19 = .ok (.invokevirtual 45, 3) := by decide +kernel
theorem dX6_yOf_22 : decode cX6_yOf 22 = .ok (.iconst 2, 1) := by decide +kernel
theorem dX6_yOf_23 : decode cX6_yOf 23 = .ok (.if_icmp .ne 8, 3) := by decide +kernel
theorem dX6_yOf_26 : decode cX6_yOf 26 = .ok (.bipush 41, 2) := by decide +kernel
theorem dX6_yOf_28 : decode cX6_yOf 28 = .ok (.goto 11, 3) := by decide +kernel
theorem dX6_yOf_31 : decode cX6_yOf 31 = .ok (.aload_n 0, 1) := by decide +kernel
theorem dX6_yOf_32 : decode cX6_yOf 32 = .ok (.bipush 32, 2) := by decide +kernel
theorem dX6_yOf_34 : decode cX6_yOf 34 = .ok (.iload_n 1, 1) := by decide +kernel
theorem dX6_yOf_35 : decode cX6_yOf 35 = .ok (.iadd, 1) := by decide +kernel
theorem dX6_yOf_36 : decode cX6_yOf 36 = .ok (.invokevirtual 41, 3) := by decide +kernel
theorem dX6_yOf_39 : decode cX6_yOf 39 = .ok (.ireturn, 1) := by decide +kernel
theorem dX6_sizeOf_0 : decode cX6_sizeOf 0 = .ok (.iload_n 0, 1) := by decide +kernel
theorem dX6_sizeOf_1 : decode cX6_sizeOf 1 = .ok (.bipush 8, 2) := by decide +kernel
theorem dX6_sizeOf_3 : decode cX6_sizeOf 3 = .ok (.if_icmp .ge 7, 3) := by decide +kernel
theorem dX6_sizeOf_6 : decode cX6_sizeOf 6 = .ok (.iconst 1, 1) := by decide +kernel
theorem dX6_sizeOf_7 : decode cX6_sizeOf 7 = .ok (.goto 4, 3) := by decide +kernel
theorem dX6_sizeOf_10 : decode cX6_sizeOf 10 = .ok (.iconst 2, 1) := by decide +kernel
theorem dX6_sizeOf_11 : decode cX6_sizeOf 11 = .ok (.ireturn, 1) := by decide +kernel
theorem dX6_turn_0 : decode cX6_turn 0 = .ok (.aload_n 0, 1) := by decide +kernel
theorem dX6_turn_1 : decode cX6_turn 1 = .ok (.bipush 64, 2) := by decide +kernel
theorem dX6_turn_3 : decode cX6_turn 3 = .ok (.invokevirtual 41, 3) := by decide +kernel
theorem dX6_turn_6 : decode cX6_turn 6 = .ok (.ireturn, 1) := by decide +kernel
theorem dX6_gone_0 : decode cX6_gone 0 = .ok (.aload_n 0, 1) := by decide +kernel
theorem dX6_gone_1 : decode cX6_gone 1 = .ok (.bipush 65, 2) := by decide +kernel
theorem dX6_gone_3 : decode cX6_gone 3 = .ok (.invokevirtual 41, 3) := by decide +kernel
theorem dX6_gone_6 : decode cX6_gone 6 = .ok (.ireturn, 1) := by decide +kernel
theorem dX6_isCome_0 : decode cX6_isCome 0 = .ok (.aload_n 0, 1) := by decide +kernel
theorem dX6_isCome_1 : decode cX6_isCome 1 = .ok (.bipush 66, 2) := by decide +kernel
theorem dX6_isCome_3 : decode cX6_isCome 3 = .ok (.invokevirtual 41, 3) := by decide +kernel
theorem dX6_isCome_6 : decode cX6_isCome 6 = .ok (.iconst 1, 1) := by decide +kernel
theorem dX6_isCome_7 : decode cX6_isCome 7 = .ok (.if_icmp .ne 7, 3) := by decide +kernel
theorem dX6_isCome_10 : decode cX6_isCome 10 = .ok (.iconst 1, 1) := by decide +kernel
theorem dX6_isCome_11 : decode cX6_isCome 11 = .ok (.goto 4, 3) := by decide +kernel
theorem dX6_isCome_14 : decode cX6_isCome 14 = .ok (.iconst 0, 1) := by decide +kernel
theorem dX6_isCome_15 : decode cX6_isCome 15 = .ok (.ireturn, 1) := by decide +kernel
theorem dX6_clear_0 : decode cX6_clear 0 = .ok (.iconst 0, 1) := by decide +kernel
theorem dX6_clear_1 : decode cX6_clear 1 = .ok (.istore_n 1, 1) := by decide +kernel
theorem dX6_clear_2 : decode cX6_clear 2 = .ok (.iload_n 1, 1) := by decide +kernel
theorem dX6_clear_3 : decode cX6_clear 3 = .ok (.bipush 16, 2) := by decide +kernel
theorem dX6_clear_5 : decode cX6_clear 5 = .ok (.if_icmp .ge 15, 3) := by decide +kernel
theorem dX6_clear_8 : decode cX6_clear 8 = .ok (.aload_n 0, 1) := by decide +kernel
theorem dX6_clear_9 : decode cX6_clear 9 = .ok (.iload_n 1, 1) := by decide +kernel
theorem dX6_clear_10 : decode cX6_clear 10 = .ok (.iconst 0, 1) := by decide +kernel
theorem dX6_clear_11 : decode cX6_clear 11 = .ok (.invokevirtual 54, 3) := by decide +kernel
theorem dX6_clear_14 : decode cX6_clear 14 = .ok (.iinc 1 1, 3) := by decide +kernel
theorem dX6_clear_17 : decode cX6_clear 17 = .ok (.goto (-15), 3) := by decide +kernel
theorem dX6_clear_20 : decode cX6_clear 20 = .ok (.aload_n 0, 1) := by decide +kernel
theorem dX6_clear_21 : decode cX6_clear 21 = .ok (.bipush 64, 2) := by decide +kernel
theorem dX6_clear_23 : decode cX6_clear 23 = .ok (.iconst 0, 1) := by decide +kernel
theorem dX6_clear_24 : decode cX6_clear 24 = .ok (.invokevirtual 54, 3) := by decide +kernel
theorem dX6_clear_27 : decode cX6_clear 27 = .ok (.aload_n 0, 1) := by decide +kernel
theorem dX6_clear_28 : decode cX6_clear 28 = .ok (.bipush 65, 2) := by decide +kernel
theorem dX6_clear_30 : decode cX6_clear 30 = .ok (.iconst 0, 1) := by decide +kernel
theorem dX6_clear_31 : decode cX6_clear 31 = .ok (.invokevirtual 54, 3) := by decide +kernel
theorem dX6_clear_34 : decode cX6_clear 34 = .ok (.aload_n 0, 1) := by decide +kernel
theorem dX6_clear_35 : decode cX6_clear 35 = .ok (.bipush 66, 2) := by decide +kernel
theorem dX6_clear_37 : decode cX6_clear 37 = .ok (.iconst 0, 1) := by decide +kernel
theorem dX6_clear_38 : decode cX6_clear 38 = .ok (.invokevirtual 54, 3) := by decide +kernel
theorem dX6_clear_41 : decode cX6_clear 41 = .ok (.aload_n 0, 1) := by decide +kernel
theorem dX6_clear_42 : decode cX6_clear 42 = .ok (.bipush 67, 2) := by decide +kernel
theorem dX6_clear_44 : decode cX6_clear 44 = .ok (.iconst 0, 1) := by decide +kernel
theorem dX6_clear_45 : decode cX6_clear 45 = .ok (.invokevirtual 54, 3) := by decide +kernel
theorem dX6_clear_48 : decode cX6_clear 48 = .ok (.aload_n 0, 1) := by decide +kernel
theorem dX6_clear_49 : decode cX6_clear 49 = .ok (.bipush 68, 2) := by decide +kernel
theorem dX6_clear_51 : decode cX6_clear 51 = .ok (.iconst 0, 1) := by decide +kernel
theorem dX6_clear_52 : decode cX6_clear 52 = .ok (.invokevirtual 54, 3) := by decide +kernel
theorem dX6_clear_55 : decode cX6_clear 55 = .ok (.return_, 1) := by decide +kernel
theorem dX6_place_0 : decode cX6_place 0 = .ok (.aload_n 0, 1) := by decide +kernel
theorem dX6_place_1 : decode cX6_place 1 = .ok (.iload_n 1, 1) := by decide +kernel
theorem dX6_place_2 : decode cX6_place 2 = .ok (.iconst 1, 1) := by decide +kernel
theorem dX6_place_3 : decode cX6_place 3 = .ok (.invokevirtual 54, 3) := by decide +kernel
theorem dX6_place_6 : decode cX6_place 6 = .ok (.aload_n 0, 1) := by decide +kernel
theorem dX6_place_7 : decode cX6_place 7 = .ok (.bipush 16, 2) := by decide +kernel
theorem dX6_place_9 : decode cX6_place 9 = .ok (.iload_n 1, 1) := by decide +kernel
theorem dX6_place_10 : decode cX6_place 10 = .ok (.iadd, 1) := by decide +kernel
theorem dX6_place_11 : decode cX6_place 11 = .ok (.iload_n 2, 1) := by decide +kernel
theorem dX6_place_12 : decode cX6_place 12 = .ok (.invokevirtual 54, 3) := by decide +kernel
theorem dX6_place_15 : decode cX6_place 15 = .ok (.aload_n 0, 1) := by decide +kernel
theorem dX6_place_16 : decode cX6_place 16 = .ok (.bipush 32, 2) := by decide +kernel
theorem dX6_place_18 : decode cX6_place 18 = .ok (.iload_n 1, 1) := by decide +kernel
theorem dX6_place_19 : decode cX6_place 19 = .ok (.iadd, 1) := by decide +kernel
theorem dX6_place_20 : decode cX6_place 20 = .ok (.iload_n 3, 1) := by decide +kernel
theorem dX6_place_21 : decode cX6_place 21 = .ok (.invokevirtual 54, 3) := by decide +kernel
theorem dX6_place_24 : decode cX6_place 24 = .ok (.aload_n 0, 1) := by decide +kernel
theorem dX6_place_25 : decode cX6_place 25 = .ok (.bipush 48, 2) := by decide +kernel
theorem dX6_place_27 : decode cX6_place 27 = .ok (.iload_n 1, 1) := by decide +kernel
theorem dX6_place_28 : decode cX6_place 28 = .ok (.iadd, 1) := by decide +kernel
theorem dX6_place_29 : decode cX6_place 29 = .ok (.aload_n 0, 1) := by decide +kernel
theorem dX6_place_30 : decode cX6_place 30 = .ok (.bipush 68, 2) := by decide +kernel
theorem dX6_place_32 : decode cX6_place 32 = .ok (.invokevirtual 41, 3) := by decide +kernel
theorem dX6_place_35 : decode cX6_place 35 = .ok (.invokevirtual 54, 3) := by decide +kernel
theorem dX6_place_38 : decode cX6_place 38 = .ok (.aload_n 0, 1) := by decide +kernel
theorem dX6_place_39 : decode cX6_place 39 = .ok (.bipush 68, 2) := by decide +kernel
theorem dX6_place_41 : decode cX6_place 41 = .ok (.aload_n 0, 1) := by decide +kernel
theorem dX6_place_42 : decode cX6_place 42 = .ok (.bipush 68, 2) := by decide +kernel
theorem dX6_place_44 : decode cX6_place 44 = .ok (.invokevirtual 41, 3) := by decide +kernel
theorem dX6_place_47 : decode cX6_place 47 = .ok (.iconst 1, 1) := by decide +kernel
theorem dX6_place_48 : decode cX6_place 48 = .ok (.iadd, 1) := by decide +kernel
theorem dX6_place_49 : decode cX6_place 49 = .ok (.invokevirtual 54, 3) := by decide +kernel
theorem dX6_place_52 : decode cX6_place 52 = .ok (.return_, 1) := by decide +kernel
theorem dX6_isOff_0 : decode cX6_isOff 0 = .ok (.iload_n 0, 1) := by decide +kernel
theorem dX6_isOff_1 : decode cX6_isOff 1 = .ok (.ifCond .ge 7, 3) := by decide +kernel
theorem dX6_isOff_4 : decode cX6_isOff 4 = .ok (.iconst 1, 1) := by decide +kernel
theorem dX6_isOff_5 : decode cX6_isOff 5 = .ok (.goto 4, 3) := by decide +kernel
theorem dX6_isOff_8 : decode cX6_isOff 8 = .ok (.iconst 0, 1) := by decide +kernel
theorem dX6_isOff_9 : decode cX6_isOff 9 = .ok (.ireturn, 1) := by decide +kernel
theorem dX6_covers_0 : decode cX6_covers 0 = .ok (.aload_n 0, 1) := by decide +kernel
theorem dX6_covers_1 : decode cX6_covers 1 = .ok (.iload_n 1, 1) := by decide +kernel
theorem dX6_covers_2 : decode cX6_covers 2 = .ok (.invokevirtual 45, 3) := by decide +kernel
theorem dX6_covers_5 : decode cX6_covers 5 = .ok (.iconst 1, 1) := by decide +kernel
theorem dX6_covers_6 : decode cX6_covers 6 = .ok (.if_icmp .ne 58, 3) := by decide +kernel
theorem dX6_covers_9 : decode cX6_covers 9 = .ok (.aload_n 0, 1) := by decide +kernel
theorem dX6_covers_10 : decode cX6_covers 10 = .ok (.iload_n 2, 1) := by decide +kernel
theorem dX6_covers_11 : decode cX6_covers 11 = .ok (.invokevirtual 45, 3) := by decide +kernel
theorem dX6_covers_14 : decode cX6_covers 14 = .ok (.iconst 1, 1) := by decide +kernel
theorem dX6_covers_15 : decode cX6_covers 15 = .ok (.if_icmp .ne 49, 3) := by decide +kernel
theorem dX6_covers_18 : decode cX6_covers 18 = .ok (.iload_n 1, 1) := by decide +kernel
theorem dX6_covers_19 : decode cX6_covers 19 = .ok (.iload_n 2, 1) := by decide +kernel
theorem dX6_covers_20 : decode cX6_covers 20 = .ok (.if_icmp .eq 44, 3) := by decide +kernel
theorem dX6_covers_23 : decode cX6_covers 23 = .ok (.aload_n 0, 1) := by decide +kernel
theorem dX6_covers_24 : decode cX6_covers 24 = .ok (.bipush 48, 2) := by decide +kernel
theorem dX6_covers_26 : decode cX6_covers 26 = .ok (.iload_n 1, 1) := by decide +kernel
theorem dX6_covers_27 : decode cX6_covers 27 = .ok (.iadd, 1) := by decide +kernel
theorem dX6_covers_28 : decode cX6_covers 28 = .ok (.invokevirtual 41, 3) := by decide +kernel
theorem dX6_covers_31 : decode cX6_covers 31 = .ok (.aload_n 0, 1) := by decide +kernel
theorem dX6_covers_32 : decode cX6_covers 32 = .ok (.bipush 48, 2) := by decide +kernel
theorem dX6_covers_34 : decode cX6_covers 34 = .ok (.iload_n 2, 1) := by decide +kernel
theorem dX6_covers_35 : decode cX6_covers 35 = .ok (.iadd, 1) := by decide +kernel
theorem dX6_covers_36 : decode cX6_covers 36 = .ok (.invokevirtual 41, 3) := by decide +kernel
theorem dX6_covers_39 : decode cX6_covers 39 = .ok (.if_icmp .lt 25, 3) := by decide +kernel
theorem dX6_covers_42 : decode cX6_covers 42 = .ok (.aload_n 0, 1) := by decide +kernel
theorem dX6_covers_43 : decode cX6_covers 43 = .ok (.iload_n 1, 1) := by decide +kernel
theorem dX6_covers_44 : decode cX6_covers 44 = .ok (.invokevirtual 58, 3) := by decide +kernel
theorem dX6_covers_47 : decode cX6_covers 47 = .ok (.invokestatic 61, 3) := by decide +kernel
theorem dX6_covers_50 : decode cX6_covers 50 = .ok (.ifCond .ne 14, 3) := by decide +kernel
theorem dX6_covers_53 : decode cX6_covers 53 = .ok (.aload_n 0, 1) := by decide +kernel
theorem dX6_covers_54 : decode cX6_covers 54 = .ok (.iload_n 2, 1) := by decide +kernel
theorem dX6_covers_55 : decode cX6_covers 55 = .ok (.invokevirtual 58, 3) := by decide +kernel
theorem dX6_covers_58 : decode cX6_covers 58 = .ok (.invokestatic 61, 3) := by decide +kernel
theorem dX6_covers_61 : decode cX6_covers 61 = .ok (.ifCond .eq 5, 3) := by decide +kernel
theorem dX6_covers_64 : decode cX6_covers 64 = .ok (.iconst 0, 1) := by decide +kernel
theorem dX6_covers_65 : decode cX6_covers 65 = .ok (.ireturn, 1) := by decide +kernel
theorem dX6_covers_66 : decode cX6_covers 66 = .ok (.aload_n 0, 1) := by decide +kernel
theorem dX6_covers_67 : decode cX6_covers 67 = .ok (.iload_n 1, 1) := by decide +kernel
theorem dX6_covers_68 : decode cX6_covers 68 = .ok (.invokevirtual 58, 3) := by decide +kernel
theorem dX6_covers_71 : decode cX6_covers 71 = .ok (.aload_n 0, 1) := by decide +kernel
theorem dX6_covers_72 : decode cX6_covers 72 = .ok (.iload_n 2, 1) := by decide +kernel
theorem dX6_covers_73 : decode cX6_covers 73 = .ok (.invokevirtual 58, 3) := by decide +kernel
theorem dX6_covers_76 : decode cX6_covers 76 = .ok (.isub, 1) := by decide +kernel
theorem dX6_covers_77 : decode cX6_covers 77 = .ok (.istore_n 3, 1) := by decide +kernel
theorem dX6_covers_78 : decode cX6_covers 78 = .ok (.aload_n 0, 1) := by decide +kernel
theorem dX6_covers_79 : decode cX6_covers 79 = .ok (.iload_n 1, 1) := by decide +kernel
theorem dX6_covers_80 : decode cX6_covers 80 = .ok (.invokevirtual 65, 3) := by decide +kernel
theorem dX6_covers_83 : decode cX6_covers 83 = .ok (.aload_n 0, 1) := by decide +kernel
theorem dX6_covers_84 : decode cX6_covers 84 = .ok (.iload_n 2, 1) := by decide +kernel
theorem dX6_covers_85 : decode cX6_covers 85 = .ok (.invokevirtual 65, 3) := by decide +kernel
theorem dX6_covers_88 : decode cX6_covers 88 = .ok (.isub, 1) := by decide +kernel
theorem dX6_covers_89 : decode cX6_covers 89 = .ok (.istore 4, 2) := by decide +kernel
theorem dX6_covers_91 : decode cX6_covers 91 = .ok (.iload_n 1, 1) := by decide +kernel
theorem dX6_covers_92 : decode cX6_covers 92 = .ok (.invokestatic 68, 3) := by decide +kernel
theorem dX6_covers_95 : decode cX6_covers 95 = .ok (.iload_n 2, 1) := by decide +kernel
theorem dX6_covers_96 : decode cX6_covers 96 = .ok (.invokestatic 68, 3) := by decide +kernel
theorem dX6_covers_99 : decode cX6_covers 99 = .ok (.iadd, 1) := by decide +kernel
theorem dX6_covers_100 : decode cX6_covers 100 = .ok (.istore 5, 2) := by decide +kernel
theorem dX6_covers_102 : decode cX6_covers 102 = .ok (.iload_n 3, 1) := by decide +kernel
theorem dX6_covers_103 : decode cX6_covers 103 = .ok (.iload_n 3, 1) := by decide +kernel
theorem dX6_covers_104 : decode cX6_covers 104 = .ok (.imul, 1) := by decide +kernel
theorem dX6_covers_105 : decode cX6_covers 105 = .ok (.iload 4, 2) := by decide +kernel
theorem dX6_covers_107 : decode cX6_covers 107 = .ok (.iload 4, 2) := by decide +kernel
theorem dX6_covers_109 : decode cX6_covers 109 = .ok (.imul, 1) := by decide +kernel
theorem dX6_covers_110 : decode cX6_covers 110 = .ok (.iadd, 1) := by decide +kernel
theorem dX6_covers_111 : decode cX6_covers 111 = .ok (.iload 5, 2) := by decide +kernel
theorem dX6_covers_113 : decode cX6_covers 113 = .ok (.iload 5, 2) := by decide +kernel
theorem dX6_covers_115 : decode cX6_covers 115 = .ok (.imul, 1) := by decide +kernel
theorem dX6_covers_116 : decode cX6_covers 116 = .ok (.if_icmp .ge 7, 3) := by decide +kernel
theorem dX6_covers_119 : decode cX6_covers 119 = .ok (.iconst 1, 1) := by decide +kernel
theorem dX6_covers_120 : decode cX6_covers 120 = .ok (.goto 4, 3) := by decide +kernel
theorem dX6_covers_123 : decode cX6_covers 123 = .ok (.iconst 0, 1) := by decide +kernel
theorem dX6_covers_124 : decode cX6_covers 124 = .ok (.ireturn, 1) := by decide +kernel
theorem dX6_coverers_0 : decode cX6_coverers 0 = .ok (.iconst 0, 1) := by decide +kernel
theorem dX6_coverers_1 : decode cX6_coverers 1 = .ok (.istore_n 2, 1) := by decide +kernel
theorem dX6_coverers_2 : decode cX6_coverers 2 = .ok (.iconst 0, 1) := by decide +kernel
theorem dX6_coverers_3 : decode cX6_coverers 3 = .ok (.istore_n 3, 1) := by decide +kernel
theorem dX6_coverers_4 : decode cX6_coverers 4 = .ok (.iload_n 3, 1) := by decide +kernel
theorem dX6_coverers_5 : decode cX6_coverers 5 = .ok (.bipush 16, 2) := by decide +kernel
theorem dX6_coverers_7 : decode cX6_coverers 7 = .ok (.if_icmp .ge 28, 3) := by decide +kernel
theorem dX6_coverers_10 : decode cX6_coverers 10 = .ok (.iload_n 2, 1) := by decide +kernel
theorem dX6_coverers_11 : decode cX6_coverers 11 = .ok (.aload_n 0, 1) := by decide +kernel
theorem dX6_coverers_12 : decode cX6_coverers 12 = .ok (.iload_n 3, 1) := by decide +kernel
theorem dX6_coverers_13 : decode cX6_coverers 13 = .ok (.iload_n 1, 1) := by decide +kernel
theorem dX6_coverers_14 : decode cX6_coverers 14 = .ok (.invokevirtual 71, 3) := by decide +kernel
theorem dX6_coverers_17 : decode cX6_coverers 17 = .ok (.ifCond .eq 9, 3) := by decide +kernel
theorem dX6_coverers_20 : decode cX6_coverers 20 = .ok (.iconst 1, 1) := by decide +kernel
theorem dX6_coverers_21 : decode cX6_coverers 21 = .ok (.iload_n 3, 1) := by decide +kernel
theorem dX6_coverers_22 : decode cX6_coverers 22 = .ok (.ishl, 1) := by decide +kernel
theorem dX6_coverers_23 : decode cX6_coverers 23 = .ok (.goto 4, 3) := by decide +kernel
theorem dX6_coverers_26 : decode cX6_coverers 26 = .ok (.iconst 0, 1) := by decide +kernel
theorem dX6_coverers_27 : decode cX6_coverers 27 = .ok (.ior, 1) := by decide +kernel
theorem dX6_coverers_28 : decode cX6_coverers 28 = .ok (.istore_n 2, 1) := by decide +kernel
theorem dX6_coverers_29 : decode cX6_coverers 29 = .ok (.iinc 3 1, 3) := by decide +kernel
theorem dX6_coverers_32 : decode cX6_coverers 32 = .ok (.goto (-28), 3) := by decide +kernel
theorem dX6_coverers_35 : decode cX6_coverers 35 = .ok (.iload_n 2, 1) := by decide +kernel
theorem dX6_coverers_36 : decode cX6_coverers 36 = .ok (.ireturn, 1) := by decide +kernel
theorem dX6_covered_0 : decode cX6_covered 0 = .ok (.iconst 0, 1) := by decide +kernel
theorem dX6_covered_1 : decode cX6_covered 1 = .ok (.istore_n 2, 1) := by decide +kernel
theorem dX6_covered_2 : decode cX6_covered 2 = .ok (.iconst 0, 1) := by decide +kernel
theorem dX6_covered_3 : decode cX6_covered 3 = .ok (.istore_n 3, 1) := by decide +kernel
theorem dX6_covered_4 : decode cX6_covered 4 = .ok (.iload_n 3, 1) := by decide +kernel
theorem dX6_covered_5 : decode cX6_covered 5 = .ok (.bipush 16, 2) := by decide +kernel
theorem dX6_covered_7 : decode cX6_covered 7 = .ok (.if_icmp .ge 28, 3) := by decide +kernel
theorem dX6_covered_10 : decode cX6_covered 10 = .ok (.iload_n 2, 1) := by decide +kernel
theorem dX6_covered_11 : decode cX6_covered 11 = .ok (.aload_n 0, 1) := by decide +kernel
theorem dX6_covered_12 : decode cX6_covered 12 = .ok (.iload_n 1, 1) := by decide +kernel
theorem dX6_covered_13 : decode cX6_covered 13 = .ok (.iload_n 3, 1) := by decide +kernel
theorem dX6_covered_14 : decode cX6_covered 14 = .ok (.invokevirtual 71, 3) := by decide +kernel
theorem dX6_covered_17 : decode cX6_covered 17 = .ok (.ifCond .eq 9, 3) := by decide +kernel
theorem dX6_covered_20 : decode cX6_covered 20 = .ok (.iconst 1, 1) := by decide +kernel
theorem dX6_covered_21 : decode cX6_covered 21 = .ok (.iload_n 3, 1) := by decide +kernel
theorem dX6_covered_22 : decode cX6_covered 22 = .ok (.ishl, 1) := by decide +kernel
theorem dX6_covered_23 : decode cX6_covered 23 = .ok (.goto 4, 3) := by decide +kernel
theorem dX6_covered_26 : decode cX6_covered 26 = .ok (.iconst 0, 1) := by decide +kernel
theorem dX6_covered_27 : decode cX6_covered 27 = .ok (.ior, 1) := by decide +kernel
theorem dX6_covered_28 : decode cX6_covered 28 = .ok (.istore_n 2, 1) := by decide +kernel
theorem dX6_covered_29 : decode cX6_covered 29 = .ok (.iinc 3 1, 3) := by decide +kernel
theorem dX6_covered_32 : decode cX6_covered 32 = .ok (.goto (-28), 3) := by decide +kernel
theorem dX6_covered_35 : decode cX6_covered 35 = .ok (.iload_n 2, 1) := by decide +kernel
theorem dX6_covered_36 : decode cX6_covered 36 = .ok (.ireturn, 1) := by decide +kernel
theorem dX6_isFree_0 : decode cX6_isFree 0 = .ok (.aload_n 0, 1) := by decide +kernel
theorem dX6_isFree_1 : decode cX6_isFree 1 = .ok (.iload_n 1, 1) := by decide +kernel
theorem dX6_isFree_2 : decode cX6_isFree 2 = .ok (.invokevirtual 45, 3) := by decide +kernel
theorem dX6_isFree_5 : decode cX6_isFree 5 = .ok (.ifCond .eq 20, 3) := by decide +kernel
theorem dX6_isFree_8 : decode cX6_isFree 8 = .ok (.aload_n 0, 1) := by decide +kernel
theorem dX6_isFree_9 : decode cX6_isFree 9 = .ok (.iload_n 1, 1) := by decide +kernel
theorem dX6_isFree_10 : decode cX6_isFree 10 = .ok (.invokevirtual 45, 3) := by decide +kernel
theorem dX6_isFree_13 : decode cX6_isFree 13 = .ok (.iconst 1, 1) := by decide +kernel
theorem dX6_isFree_14 : decode cX6_isFree 14 = .ok (.if_icmp .ne 15, 3) := by decide +kernel
theorem dX6_isFree_17 : decode cX6_isFree 17 = .ok (.aload_n 0, 1) := by decide +kernel
theorem dX6_isFree_18 : decode cX6_isFree 18 = .ok (.iload_n 1, 1) := by decide +kernel
theorem dX6_isFree_19 : decode cX6_isFree 19 = .ok (.invokevirtual 75, 3) := by decide +kernel
theorem dX6_isFree_22 : decode cX6_isFree 22 = .ok (.ifCond .ne 7, 3) := by decide +kernel
theorem dX6_isFree_25 : decode cX6_isFree 25 = .ok (.iconst 1, 1) := by decide +kernel
theorem dX6_isFree_26 : decode cX6_isFree 26 = .ok (.goto 4, 3) := by decide +kernel
theorem dX6_isFree_29 : decode cX6_isFree 29 = .ok (.iconst 0, 1) := by decide +kernel
theorem dX6_isFree_30 : decode cX6_isFree 30 = .ok (.ireturn, 1) := by decide +kernel
theorem dX6_pile_0 : decode cX6_pile 0 = .ok (.aload_n 0, 1) := by decide +kernel
theorem dX6_pile_1 : decode cX6_pile 1 = .ok (.iload_n 1, 1) := by decide +kernel
theorem dX6_pile_2 : decode cX6_pile 2 = .ok (.invokevirtual 45, 3) := by decide +kernel
theorem dX6_pile_5 : decode cX6_pile 5 = .ok (.iconst 1, 1) := by decide +kernel
theorem dX6_pile_6 : decode cX6_pile 6 = .ok (.if_icmp .eq 5, 3) := by decide +kernel
theorem dX6_pile_9 : decode cX6_pile 9 = .ok (.iconst 0, 1) := by decide +kernel
theorem dX6_pile_10 : decode cX6_pile 10 = .ok (.ireturn, 1) := by decide +kernel
theorem dX6_pile_11 : decode cX6_pile 11 = .ok (.iconst 1, 1) := by decide +kernel
theorem dX6_pile_12 : decode cX6_pile 12 = .ok (.iload_n 1, 1) := by decide +kernel
theorem dX6_pile_13 : decode cX6_pile 13 = .ok (.ishl, 1) := by decide +kernel
theorem dX6_pile_14 : decode cX6_pile 14 = .ok (.istore_n 2, 1) := by decide +kernel
theorem dX6_pile_15 : decode cX6_pile 15 = .ok (.iconst 0, 1) := by decide +kernel
theorem dX6_pile_16 : decode cX6_pile 16 = .ok (.istore_n 3, 1) := by decide +kernel
theorem dX6_pile_17 : decode cX6_pile 17 = .ok (.iload_n 2, 1) := by decide +kernel
theorem dX6_pile_18 : decode cX6_pile 18 = .ok (.iload_n 3, 1) := by decide +kernel
theorem dX6_pile_19 : decode cX6_pile 19 = .ok (.if_icmp .eq 54, 3) := by decide +kernel
theorem dX6_pile_22 : decode cX6_pile 22 = .ok (.iload_n 2, 1) := by decide +kernel
theorem dX6_pile_23 : decode cX6_pile 23 = .ok (.istore_n 3, 1) := by decide +kernel
theorem dX6_pile_24 : decode cX6_pile 24 = .ok (.iconst 0, 1) := by decide +kernel
theorem dX6_pile_25 : decode cX6_pile 25 = .ok (.istore 4, 2) := by decide +kernel
theorem dX6_pile_27 : decode cX6_pile 27 = .ok (.iload 4, 2) := by decide +kernel
theorem dX6_pile_29 : decode cX6_pile 29 = .ok (.bipush 16, 2) := by decide +kernel
theorem dX6_pile_31 : decode cX6_pile 31 = .ok (.if_icmp .ge 39, 3) := by decide +kernel
theorem dX6_pile_34 : decode cX6_pile 34 = .ok (.iload_n 2, 1) := by decide +kernel
theorem dX6_pile_35 : decode cX6_pile 35 = .ok (.iload_n 3, 1) := by decide +kernel
theorem dX6_pile_36 : decode cX6_pile 36 = .ok (.iload 4, 2) := by decide +kernel
theorem dX6_pile_38 : decode cX6_pile 38 = .ok (.ishr, 1) := by decide +kernel
theorem dX6_pile_39 : decode cX6_pile 39 = .ok (.iconst 1, 1) := by decide +kernel
theorem dX6_pile_40 : decode cX6_pile 40 = .ok (.iand, 1) := by decide +kernel
theorem dX6_pile_41 : decode cX6_pile 41 = .ok (.iconst 1, 1) := by decide +kernel
theorem dX6_pile_42 : decode cX6_pile 42 = .ok (.if_icmp .ne 19, 3) := by decide +kernel
theorem dX6_pile_45 : decode cX6_pile 45 = .ok (.aload_n 0, 1) := by decide +kernel
theorem dX6_pile_46 : decode cX6_pile 46 = .ok (.iload 4, 2) := by decide +kernel
theorem dX6_pile_48 : decode cX6_pile 48 = .ok (.invokevirtual 75, 3) := by decide +kernel
theorem dX6_pile_51 : decode cX6_pile 51 = .ok (.aload_n 0, 1) := by decide +kernel
theorem dX6_pile_52 : decode cX6_pile 52 = .ok (.iload 4, 2) := by decide +kernel
theorem dX6_pile_54 : decode cX6_pile 54 = .ok (.invokevirtual 78, 3) := by decide +kernel
theorem dX6_pile_57 : decode cX6_pile 57 = .ok (.ior, 1) := by decide +kernel
theorem dX6_pile_58 : decode cX6_pile 58 = .ok (.goto 4, 3) := by decide +kernel
theorem dX6_pile_61 : decode cX6_pile 61 = .ok (.iconst 0, 1) := by decide +kernel
theorem dX6_pile_62 : decode cX6_pile 62 = .ok (.ior, 1) := by decide +kernel
theorem dX6_pile_63 : decode cX6_pile 63 = .ok (.istore_n 2, 1) := by decide +kernel
theorem dX6_pile_64 : decode cX6_pile 64 = .ok (.iinc 4 1, 3) := by decide +kernel
theorem dX6_pile_67 : decode cX6_pile 67 = .ok (.goto (-40), 3) := by decide +kernel
theorem dX6_pile_70 : decode cX6_pile 70 = .ok (.goto (-53), 3) := by decide +kernel
theorem dX6_pile_73 : decode cX6_pile 73 = .ok (.iload_n 2, 1) := by decide +kernel
theorem dX6_pile_74 : decode cX6_pile 74 = .ok (.ireturn, 1) := by decide +kernel
theorem dX6_freeOf_0 : decode cX6_freeOf 0 = .ok (.iconst 0, 1) := by decide +kernel
theorem dX6_freeOf_1 : decode cX6_freeOf 1 = .ok (.istore_n 2, 1) := by decide +kernel
theorem dX6_freeOf_2 : decode cX6_freeOf 2 = .ok (.iload_n 1, 1) := by decide +kernel
theorem dX6_freeOf_3 : decode cX6_freeOf 3 = .ok (.istore_n 3, 1) := by decide +kernel
theorem dX6_freeOf_4 : decode cX6_freeOf 4 = .ok (.iload_n 3, 1) := by decide +kernel
theorem dX6_freeOf_5 : decode cX6_freeOf 5 = .ok (.bipush 16, 2) := by decide +kernel
theorem dX6_freeOf_7 : decode cX6_freeOf 7 = .ok (.if_icmp .ge 27, 3) := by decide +kernel
theorem dX6_freeOf_10 : decode cX6_freeOf 10 = .ok (.iload_n 2, 1) := by decide +kernel
theorem dX6_freeOf_11 : decode cX6_freeOf 11 = .ok (.aload_n 0, 1) := by decide +kernel
theorem dX6_freeOf_12 : decode cX6_freeOf 12 = .ok (.iload_n 3, 1) := by decide +kernel
theorem dX6_freeOf_13 : decode cX6_freeOf 13 = .ok (.invokevirtual 81, 3) := by decide +kernel
theorem dX6_freeOf_16 : decode cX6_freeOf 16 = .ok (.ifCond .eq 9, 3) := by decide +kernel
theorem dX6_freeOf_19 : decode cX6_freeOf 19 = .ok (.iconst 1, 1) := by decide +kernel
theorem dX6_freeOf_20 : decode cX6_freeOf 20 = .ok (.iload_n 3, 1) := by decide +kernel
theorem dX6_freeOf_21 : decode cX6_freeOf 21 = .ok (.ishl, 1) := by decide +kernel
theorem dX6_freeOf_22 : decode cX6_freeOf 22 = .ok (.goto 4, 3) := by decide +kernel
theorem dX6_freeOf_25 : decode cX6_freeOf 25 = .ok (.iconst 0, 1) := by decide +kernel
theorem dX6_freeOf_26 : decode cX6_freeOf 26 = .ok (.ior, 1) := by decide +kernel
theorem dX6_freeOf_27 : decode cX6_freeOf 27 = .ok (.istore_n 2, 1) := by decide +kernel
theorem dX6_freeOf_28 : decode cX6_freeOf 28 = .ok (.iinc 3 4, 3) := by decide +kernel
theorem dX6_freeOf_31 : decode cX6_freeOf 31 = .ok (.goto (-27), 3) := by decide +kernel
theorem dX6_freeOf_34 : decode cX6_freeOf 34 = .ok (.iload_n 2, 1) := by decide +kernel
theorem dX6_freeOf_35 : decode cX6_freeOf 35 = .ok (.ireturn, 1) := by decide +kernel
theorem dX6_allIn_0 : decode cX6_allIn 0 = .ok (.aload_n 0, 1) := by decide +kernel
theorem dX6_allIn_1 : decode cX6_allIn 1 = .ok (.iload_n 1, 1) := by decide +kernel
theorem dX6_allIn_2 : decode cX6_allIn 2 = .ok (.invokevirtual 45, 3) := by decide +kernel
theorem dX6_allIn_5 : decode cX6_allIn 5 = .ok (.iconst 2, 1) := by decide +kernel
theorem dX6_allIn_6 : decode cX6_allIn 6 = .ok (.if_icmp .ne 42, 3) := by decide +kernel
theorem dX6_allIn_9 : decode cX6_allIn 9 = .ok (.aload_n 0, 1) := by decide +kernel
theorem dX6_allIn_10 : decode cX6_allIn 10 = .ok (.iload_n 1, 1) := by decide +kernel
theorem dX6_allIn_11 : decode cX6_allIn 11 = .ok (.iconst 4, 1) := by decide +kernel
theorem dX6_allIn_12 : decode cX6_allIn 12 = .ok (.iadd, 1) := by decide +kernel
theorem dX6_allIn_13 : decode cX6_allIn 13 = .ok (.invokevirtual 45, 3) := by decide +kernel
theorem dX6_allIn_16 : decode cX6_allIn 16 = .ok (.iconst 2, 1) := by decide +kernel
theorem dX6_allIn_17 : decode cX6_allIn 17 = .ok (.if_icmp .ne 31, 3) := by decide +kernel
theorem dX6_allIn_20 : decode cX6_allIn 20 = .ok (.aload_n 0, 1) := by decide +kernel
theorem dX6_allIn_21 : decode cX6_allIn 21 = .ok (.iload_n 1, 1) := by decide +kernel
theorem dX6_allIn_22 : decode cX6_allIn 22 = .ok (.bipush 8, 2) := by decide +kernel
theorem dX6_allIn_24 : decode cX6_allIn 24 = .ok (.iadd, 1) := by decide +kernel
theorem dX6_allIn_25 : decode cX6_allIn 25 = .ok (.invokevirtual 45, 3) := by decide +kernel
theorem dX6_allIn_28 : decode cX6_allIn 28 = .ok (.iconst 2, 1) := by decide +kernel
theorem dX6_allIn_29 : decode cX6_allIn 29 = .ok (.if_icmp .ne 19, 3) := by decide +kernel
theorem dX6_allIn_32 : decode cX6_allIn 32 = .ok (.aload_n 0, 1) := by decide +kernel
theorem dX6_allIn_33 : decode cX6_allIn 33 = .ok (.iload_n 1, 1) := by decide +kernel
theorem dX6_allIn_34 : decode cX6_allIn 34 = .ok (.bipush 12, 2) := by decide +kernel
theorem dX6_allIn_36 : decode cX6_allIn 36 = .ok (.iadd, 1) := by decide +kernel
theorem dX6_allIn_37 : decode cX6_allIn 37 = .ok (.invokevirtual 45, 3) := by decide +kernel
theorem dX6_allIn_40 : decode cX6_allIn 40 = .ok (.iconst 2, 1) := by decide +kernel
theorem dX6_allIn_41 : decode cX6_allIn 41 = .ok (.if_icmp .ne 7, 3) := by decide +kernel
theorem dX6_allIn_44 : decode cX6_allIn 44 = .ok (.iconst 1, 1) := by decide +kernel
theorem dX6_allIn_45 : decode cX6_allIn 45 = .ok (.goto 4, 3) := by decide +kernel
theorem dX6_allIn_48 : decode cX6_allIn 48 = .ok (.iconst 0, 1) := by decide +kernel
theorem dX6_allIn_49 : decode cX6_allIn 49 = .ok (.ireturn, 1) := by decide +kernel
theorem dX6_isOver_0 : decode cX6_isOver 0 = .ok (.aload_n 0, 1) := by decide +kernel
theorem dX6_isOver_1 : decode cX6_isOver 1 = .ok (.invokevirtual 84, 3) := by decide +kernel
theorem dX6_isOver_4 : decode cX6_isOver 4 = .ok (.ifCond .eq 18, 3) := by decide +kernel
theorem dX6_isOver_7 : decode cX6_isOver 7 = .ok (.aload_n 0, 1) := by decide +kernel
theorem dX6_isOver_8 : decode cX6_isOver 8 = .ok (.bipush 67, 2) := by decide +kernel
theorem dX6_isOver_10 : decode cX6_isOver 10 = .ok (.invokevirtual 41, 3) := by decide +kernel
theorem dX6_isOver_13 : decode cX6_isOver 13 = .ok (.bipush 6, 2) := by decide +kernel
theorem dX6_isOver_15 : decode cX6_isOver 15 = .ok (.if_icmp .lt 7, 3) := by decide +kernel
theorem dX6_isOver_18 : decode cX6_isOver 18 = .ok (.iconst 1, 1) := by decide +kernel
theorem dX6_isOver_19 : decode cX6_isOver 19 = .ok (.goto 4, 3) := by decide +kernel
theorem dX6_isOver_22 : decode cX6_isOver 22 = .ok (.iconst 0, 1) := by decide +kernel
theorem dX6_isOver_23 : decode cX6_isOver 23 = .ok (.istore_n 1, 1) := by decide +kernel
theorem dX6_isOver_24 : decode cX6_isOver 24 = .ok (.iconst 0, 1) := by decide +kernel
theorem dX6_isOver_25 : decode cX6_isOver 25 = .ok (.istore_n 2, 1) := by decide +kernel
theorem dX6_isOver_26 : decode cX6_isOver 26 = .ok (.iconst 0, 1) := by decide +kernel
theorem dX6_isOver_27 : decode cX6_isOver 27 = .ok (.istore_n 3, 1) := by decide +kernel
theorem dX6_isOver_28 : decode cX6_isOver 28 = .ok (.iload_n 3, 1) := by decide +kernel
theorem dX6_isOver_29 : decode cX6_isOver 29 = .ok (.iconst 4, 1) := by decide +kernel
theorem dX6_isOver_30 : decode cX6_isOver 30 = .ok (.if_icmp .ge 45, 3) := by decide +kernel
theorem dX6_isOver_33 : decode cX6_isOver 33 = .ok (.iload_n 1, 1) := by decide +kernel
theorem dX6_isOver_34 : decode cX6_isOver 34 = .ok (.ifCond .ne 11, 3) := by decide +kernel
theorem dX6_isOver_37 : decode cX6_isOver 37 = .ok (.aload_n 0, 1) := by decide +kernel
theorem dX6_isOver_38 : decode cX6_isOver 38 = .ok (.iload_n 3, 1) := by decide +kernel
theorem dX6_isOver_39 : decode cX6_isOver 39 = .ok (.invokevirtual 88, 3) := by decide +kernel
theorem dX6_isOver_42 : decode cX6_isOver 42 = .ok (.ifCond .eq 7, 3) := by decide +kernel
theorem dX6_isOver_45 : decode cX6_isOver 45 = .ok (.iconst 1, 1) := by decide +kernel
theorem dX6_isOver_46 : decode cX6_isOver 46 = .ok (.goto 4, 3) := by decide +kernel
theorem dX6_isOver_49 : decode cX6_isOver 49 = .ok (.iconst 0, 1) := by decide +kernel
theorem dX6_isOver_50 : decode cX6_isOver 50 = .ok (.istore_n 1, 1) := by decide +kernel
theorem dX6_isOver_51 : decode cX6_isOver 51 = .ok (.iload_n 2, 1) := by decide +kernel
theorem dX6_isOver_52 : decode cX6_isOver 52 = .ok (.ifCond .ne 11, 3) := by decide +kernel
theorem dX6_isOver_55 : decode cX6_isOver 55 = .ok (.aload_n 0, 1) := by decide +kernel
theorem dX6_isOver_56 : decode cX6_isOver 56 = .ok (.iload_n 3, 1) := by decide +kernel
theorem dX6_isOver_57 : decode cX6_isOver 57 = .ok (.invokevirtual 91, 3) := by decide +kernel
theorem dX6_isOver_60 : decode cX6_isOver 60 = .ok (.ifCond .eq 7, 3) := by decide +kernel
theorem dX6_isOver_63 : decode cX6_isOver 63 = .ok (.iconst 1, 1) := by decide +kernel
theorem dX6_isOver_64 : decode cX6_isOver 64 = .ok (.goto 4, 3) := by decide +kernel
theorem dX6_isOver_67 : decode cX6_isOver 67 = .ok (.iconst 0, 1) := by decide +kernel
theorem dX6_isOver_68 : decode cX6_isOver 68 = .ok (.istore_n 2, 1) := by decide +kernel
theorem dX6_isOver_69 : decode cX6_isOver 69 = .ok (.iinc 3 1, 3) := by decide +kernel
theorem dX6_isOver_72 : decode cX6_isOver 72 = .ok (.goto (-44), 3) := by decide +kernel
theorem dX6_isOver_75 : decode cX6_isOver 75 = .ok (.iload_n 1, 1) := by decide +kernel
theorem dX6_isOver_76 : decode cX6_isOver 76 = .ok (.ifCond .ne 7, 3) := by decide +kernel
theorem dX6_isOver_79 : decode cX6_isOver 79 = .ok (.iload_n 2, 1) := by decide +kernel
theorem dX6_isOver_80 : decode cX6_isOver 80 = .ok (.ifCond .ne 7, 3) := by decide +kernel
theorem dX6_isOver_83 : decode cX6_isOver 83 = .ok (.iconst 1, 1) := by decide +kernel
theorem dX6_isOver_84 : decode cX6_isOver 84 = .ok (.goto 4, 3) := by decide +kernel
theorem dX6_isOver_87 : decode cX6_isOver 87 = .ok (.iconst 0, 1) := by decide +kernel
theorem dX6_isOver_88 : decode cX6_isOver 88 = .ok (.ireturn, 1) := by decide +kernel
theorem dX6_next_0 : decode cX6_next 0 = .ok (.iload_n 1, 1) := by decide +kernel
theorem dX6_next_1 : decode cX6_next 1 = .ok (.iconst 3, 1) := by decide +kernel
theorem dX6_next_2 : decode cX6_next 2 = .ok (.if_icmp .ge 7, 3) := by decide +kernel
theorem dX6_next_5 : decode cX6_next 5 = .ok (.iload_n 1, 1) := by decide +kernel
theorem dX6_next_6 : decode cX6_next 6 = .ok (.iconst 1, 1) := by decide +kernel
theorem dX6_next_7 : decode cX6_next 7 = .ok (.iadd, 1) := by decide +kernel
theorem dX6_next_8 : decode cX6_next 8 = .ok (.ireturn, 1) := by decide +kernel
theorem dX6_next_9 : decode cX6_next 9 = .ok (.aload_n 0, 1) := by decide +kernel
theorem dX6_next_10 : decode cX6_next 10 = .ok (.bipush 67, 2) := by decide +kernel
theorem dX6_next_12 : decode cX6_next 12 = .ok (.aload_n 0, 1) := by decide +kernel
theorem dX6_next_13 : decode cX6_next 13 = .ok (.bipush 67, 2) := by decide +kernel
theorem dX6_next_15 : decode cX6_next 15 = .ok (.invokevirtual 41, 3) := by decide +kernel
theorem dX6_next_18 : decode cX6_next 18 = .ok (.iload_n 2, 1) := by decide +kernel
theorem dX6_next_19 : decode cX6_next 19 = .ok (.ifCond .eq 14, 3) := by decide +kernel
theorem dX6_next_22 : decode cX6_next 22 = .ok (.aload_n 0, 1) := by decide +kernel
theorem dX6_next_23 : decode cX6_next 23 = .ok (.invokevirtual 84, 3) := by decide +kernel
theorem dX6_next_26 : decode cX6_next 26 = .ok (.ifCond .eq 7, 3) := by decide +kernel
theorem dX6_next_29 : decode cX6_next 29 = .ok (.iconst 1, 1) := by decide +kernel
theorem dX6_next_30 : decode cX6_next 30 = .ok (.goto 4, 3) := by decide +kernel
theorem dX6_next_33 : decode cX6_next 33 = .ok (.iconst 0, 1) := by decide +kernel
theorem dX6_next_34 : decode cX6_next 34 = .ok (.iadd, 1) := by decide +kernel
theorem dX6_next_35 : decode cX6_next 35 = .ok (.invokevirtual 54, 3) := by decide +kernel
theorem dX6_next_38 : decode cX6_next 38 = .ok (.iconst 0, 1) := by decide +kernel
theorem dX6_next_39 : decode cX6_next 39 = .ok (.ireturn, 1) := by decide +kernel
theorem dX6_passOver_0 : decode cX6_passOver 0 = .ok (.iload_n 1, 1) := by decide +kernel
theorem dX6_passOver_1 : decode cX6_passOver 1 = .ok (.istore_n 3, 1) := by decide +kernel
theorem dX6_passOver_2 : decode cX6_passOver 2 = .ok (.iconst 0, 1) := by decide +kernel
theorem dX6_passOver_3 : decode cX6_passOver 3 = .ok (.istore 4, 2) := by decide +kernel
theorem dX6_passOver_5 : decode cX6_passOver 5 = .ok (.iload 4, 2) := by decide +kernel
theorem dX6_passOver_7 : decode cX6_passOver 7 = .ok (.iconst 3, 1) := by decide +kernel
theorem dX6_passOver_8 : decode cX6_passOver 8 = .ok (.if_icmp .ge 24, 3) := by decide +kernel
theorem dX6_passOver_11 : decode cX6_passOver 11 = .ok (.aload_n 0, 1) := by decide +kernel
theorem dX6_passOver_12 : decode cX6_passOver 12 = .ok (.iload_n 3, 1) := by decide +kernel
theorem dX6_passOver_13 : decode cX6_passOver 13 = .ok (.invokevirtual 91, 3) := by decide +kernel
theorem dX6_passOver_16 : decode cX6_passOver 16 = .ok (.ifCond .ne 16, 3) := by decide +kernel
theorem dX6_passOver_19 : decode cX6_passOver 19 = .ok (.aload_n 0, 1) := by decide +kernel
theorem dX6_passOver_20 : decode cX6_passOver 20 = .ok (.iload_n 3, 1) := by decide +kernel
theorem dX6_passOver_21 : decode cX6_passOver 21 = .ok (.iload_n 2, 1) := by decide +kernel
theorem dX6_passOver_22 : decode cX6_passOver 22 = .ok (.invokevirtual 94, 3) := by decide +kernel
theorem dX6_passOver_25 : decode cX6_passOver 25 = .ok (.istore_n 3, 1) := by decide +kernel
theorem dX6_passOver_26 : decode cX6_passOver 26 = .ok (.iinc 4 1, 3) := by decide +kernel
theorem dX6_passOver_29 : decode cX6_passOver 29 = .ok (.goto (-24), 3) := by decide +kernel
theorem dX6_passOver_32 : decode cX6_passOver 32 = .ok (.aload_n 0, 1) := by decide +kernel
theorem dX6_passOver_33 : decode cX6_passOver 33 = .ok (.bipush 64, 2) := by decide +kernel
theorem dX6_passOver_35 : decode cX6_passOver 35 = .ok (.iload_n 3, 1) := by decide +kernel
theorem dX6_passOver_36 : decode cX6_passOver 36 = .ok (.invokevirtual 54, 3) := by decide +kernel
theorem dX6_passOver_39 : decode cX6_passOver 39 = .ok (.return_, 1) := by decide +kernel
theorem dX6_goOn_0 : decode cX6_goOn 0 = .ok (.aload_n 0, 1) := by decide +kernel
theorem dX6_goOn_1 : decode cX6_goOn 1 = .ok (.bipush 65, 2) := by decide +kernel
theorem dX6_goOn_3 : decode cX6_goOn 3 = .ok (.aload_n 0, 1) := by decide +kernel
theorem dX6_goOn_4 : decode cX6_goOn 4 = .ok (.invokevirtual 98, 3) := by decide +kernel
theorem dX6_goOn_7 : decode cX6_goOn 7 = .ok (.iconst 1, 1) := by decide +kernel
theorem dX6_goOn_8 : decode cX6_goOn 8 = .ok (.iadd, 1) := by decide +kernel
theorem dX6_goOn_9 : decode cX6_goOn 9 = .ok (.invokevirtual 54, 3) := by decide +kernel
theorem dX6_goOn_12 : decode cX6_goOn 12 = .ok (.aload_n 0, 1) := by decide +kernel
theorem dX6_goOn_13 : decode cX6_goOn 13 = .ok (.invokevirtual 98, 3) := by decide +kernel
theorem dX6_goOn_16 : decode cX6_goOn 16 = .ok (.aload_n 0, 1) := by decide +kernel
theorem dX6_goOn_17 : decode cX6_goOn 17 = .ok (.getfield 7, 3) := by decide +kernel
theorem dX6_goOn_20 : decode cX6_goOn 20 = .ok (.bipush 71, 2) := by decide +kernel
theorem dX6_goOn_22 : decode cX6_goOn 22 = .ok (.iaload, 1) := by decide +kernel
theorem dX6_goOn_23 : decode cX6_goOn 23 = .ok (.if_icmp .lt 10, 3) := by decide +kernel
theorem dX6_goOn_26 : decode cX6_goOn 26 = .ok (.aload_n 0, 1) := by decide +kernel
theorem dX6_goOn_27 : decode cX6_goOn 27 = .ok (.bipush 66, 2) := by decide +kernel
theorem dX6_goOn_29 : decode cX6_goOn 29 = .ok (.iconst 1, 1) := by decide +kernel
theorem dX6_goOn_30 : decode cX6_goOn 30 = .ok (.invokevirtual 54, 3) := by decide +kernel
theorem dX6_goOn_33 : decode cX6_goOn 33 = .ok (.aload_n 0, 1) := by decide +kernel
theorem dX6_goOn_34 : decode cX6_goOn 34 = .ok (.iload_n 1, 1) := by decide +kernel
theorem dX6_goOn_35 : decode cX6_goOn 35 = .ok (.ifCond .eq 10, 3) := by decide +kernel
theorem dX6_goOn_38 : decode cX6_goOn 38 = .ok (.aload_n 0, 1) := by decide +kernel
theorem dX6_goOn_39 : decode cX6_goOn 39 = .ok (.invokevirtual 102, 3) := by decide +kernel
theorem dX6_goOn_42 : decode cX6_goOn 42 = .ok (.goto 12, 3) := by decide +kernel
theorem dX6_goOn_45 : decode cX6_goOn 45 = .ok (.aload_n 0, 1) := by decide +kernel
theorem dX6_goOn_46 : decode cX6_goOn 46 = .ok (.aload_n 0, 1) := by decide +kernel
theorem dX6_goOn_47 : decode cX6_goOn 47 = .ok (.invokevirtual 102, 3) := by decide +kernel
theorem dX6_goOn_50 : decode cX6_goOn 50 = .ok (.iconst 1, 1) := by decide +kernel
theorem dX6_goOn_51 : decode cX6_goOn 51 = .ok (.invokevirtual 94, 3) := by decide +kernel
theorem dX6_goOn_54 : decode cX6_goOn 54 = .ok (.iconst 1, 1) := by decide +kernel
theorem dX6_goOn_55 : decode cX6_goOn 55 = .ok (.invokevirtual 105, 3) := by decide +kernel
theorem dX6_goOn_58 : decode cX6_goOn 58 = .ok (.return_, 1) := by decide +kernel
theorem dX6_anew_0 : decode cX6_anew 0 = .ok (.aload_n 0, 1) := by decide +kernel
theorem dX6_anew_1 : decode cX6_anew 1 = .ok (.invokevirtual 98, 3) := by decide +kernel
theorem dX6_anew_4 : decode cX6_anew 4 = .ok (.istore_n 1, 1) := by decide +kernel
theorem dX6_anew_5 : decode cX6_anew 5 = .ok (.aload_n 0, 1) := by decide +kernel
theorem dX6_anew_6 : decode cX6_anew 6 = .ok (.invokevirtual 34, 3) := by decide +kernel
theorem dX6_anew_9 : decode cX6_anew 9 = .ok (.iload_n 1, 1) := by decide +kernel
theorem dX6_anew_10 : decode cX6_anew 10 = .ok (.ireturn, 1) := by decide +kernel
theorem dX6_rule_0 : decode cX6_rule 0 = .ok (.iload_n 1, 1) := by decide +kernel
theorem dX6_rule_1 : decode cX6_rule 1 = .ok (.ifCond .eq 8, 3) := by decide +kernel
theorem dX6_rule_4 : decode cX6_rule 4 = .ok (.iload_n 1, 1) := by decide +kernel
theorem dX6_rule_5 : decode cX6_rule 5 = .ok (.iconst 1, 1) := by decide +kernel
theorem dX6_rule_6 : decode cX6_rule 6 = .ok (.if_icmp .ne 12, 3) := by decide +kernel
theorem dX6_rule_9 : decode cX6_rule 9 = .ok (.iload_n 2, 1) := by decide +kernel
theorem dX6_rule_10 : decode cX6_rule 10 = .ok (.iconst 0, 1) := by decide +kernel
theorem dX6_rule_11 : decode cX6_rule 11 = .ok (.iconst 5, 1) := by decide +kernel
theorem dX6_rule_12 : decode cX6_rule 12 = .ok (.invokestatic 109, 3) := by decide +kernel
theorem dX6_rule_15 : decode cX6_rule 15 = .ok (.goto 25, 3) := by decide +kernel
theorem dX6_rule_18 : decode cX6_rule 18 = .ok (.iload_n 1, 1) := by decide +kernel
theorem dX6_rule_19 : decode cX6_rule 19 = .ok (.iconst 2, 1) := by decide +kernel
theorem dX6_rule_20 : decode cX6_rule 20 = .ok (.if_icmp .ne 19, 3) := by decide +kernel
theorem dX6_rule_23 : decode cX6_rule 23 = .ok (.iload_n 2, 1) := by decide +kernel
theorem dX6_rule_24 : decode cX6_rule 24 = .ok (.bipush 10, 2) := by decide +kernel
theorem dX6_rule_26 : decode cX6_rule 26 = .ok (.sipush 400, 3) := by decide +kernel
theorem dX6_rule_29 : decode cX6_rule 29 = .ok (.invokestatic 109, 3) := by decide +kernel
theorem dX6_rule_32 : decode cX6_rule 32 = .ok (.ifCond .eq 7, 3) := by decide +kernel
theorem dX6_rule_35 : decode cX6_rule 35 = .ok (.iconst 1, 1) := by decide +kernel
theorem dX6_rule_36 : decode cX6_rule 36 = .ok (.goto 4, 3) := by decide +kernel
theorem dX6_rule_39 : decode cX6_rule 39 = .ok (.iconst 0, 1) := by decide +kernel
theorem dX6_rule_40 : decode cX6_rule 40 = .ok (.istore_n 3, 1) := by decide +kernel
theorem dX6_rule_41 : decode cX6_rule 41 = .ok (.iload_n 3, 1) := by decide +kernel
theorem dX6_rule_42 : decode cX6_rule 42 = .ok (.ifCond .ne 5, 3) := by decide +kernel
theorem dX6_rule_45 : decode cX6_rule 45 = .ok (.iconst (-1), 1) := by decide +kernel
theorem dX6_rule_46 : decode cX6_rule 46 = .ok (.ireturn, 1) := by decide +kernel
theorem dX6_rule_47 : decode cX6_rule 47 = .ok (.iload_n 1, 1) := by decide +kernel
theorem dX6_rule_48 : decode cX6_rule 48 = .ok (.iconst 2, 1) := by decide +kernel
theorem dX6_rule_49 : decode cX6_rule 49 = .ok (.if_icmp .ne 14, 3) := by decide +kernel
theorem dX6_rule_52 : decode cX6_rule 52 = .ok (.iload_n 2, 1) := by decide +kernel
theorem dX6_rule_53 : decode cX6_rule 53 = .ok (.aload_n 0, 1) := by decide +kernel
theorem dX6_rule_54 : decode cX6_rule 54 = .ok (.invokevirtual 98, 3) := by decide +kernel
theorem dX6_rule_57 : decode cX6_rule 57 = .ok (.if_icmp .ge 6, 3) := by decide +kernel
theorem dX6_rule_60 : decode cX6_rule 60 = .ok (.bipush (-2), 2) := by decide +kernel
theorem dX6_rule_62 : decode cX6_rule 62 = .ok (.ireturn, 1) := by decide +kernel
theorem dX6_rule_63 : decode cX6_rule 63 = .ok (.aload_n 0, 1) := by decide +kernel
theorem dX6_rule_64 : decode cX6_rule 64 = .ok (.getfield 7, 3) := by decide +kernel
theorem dX6_rule_67 : decode cX6_rule 67 = .ok (.bipush 69, 2) := by decide +kernel
theorem dX6_rule_69 : decode cX6_rule 69 = .ok (.iload_n 1, 1) := by decide +kernel
theorem dX6_rule_70 : decode cX6_rule 70 = .ok (.iadd, 1) := by decide +kernel
theorem dX6_rule_71 : decode cX6_rule 71 = .ok (.iaload, 1) := by decide +kernel
theorem dX6_rule_72 : decode cX6_rule 72 = .ok (.istore 4, 2) := by decide +kernel
theorem dX6_rule_74 : decode cX6_rule 74 = .ok (.aload_n 0, 1) := by decide +kernel
theorem dX6_rule_75 : decode cX6_rule 75 = .ok (.getfield 7, 3) := by decide +kernel
theorem dX6_rule_78 : decode cX6_rule 78 = .ok (.bipush 69, 2) := by decide +kernel
theorem dX6_rule_80 : decode cX6_rule 80 = .ok (.iload_n 1, 1) := by decide +kernel
theorem dX6_rule_81 : decode cX6_rule 81 = .ok (.iadd, 1) := by decide +kernel
theorem dX6_rule_82 : decode cX6_rule 82 = .ok (.iload_n 2, 1) := by decide +kernel
theorem dX6_rule_83 : decode cX6_rule 83 = .ok (.iastore, 1) := by decide +kernel
theorem dX6_rule_84 : decode cX6_rule 84 = .ok (.iload_n 1, 1) := by decide +kernel
theorem dX6_rule_85 : decode cX6_rule 85 = .ok (.iconst 2, 1) := by decide +kernel
theorem dX6_rule_86 : decode cX6_rule 86 = .ok (.if_icmp .ne 78, 3) := by decide +kernel
theorem dX6_rule_89 : decode cX6_rule 89 = .ok (.aload_n 0, 1) := by decide +kernel
theorem dX6_rule_90 : decode cX6_rule 90 = .ok (.invokevirtual 98, 3) := by decide +kernel
theorem dX6_rule_93 : decode cX6_rule 93 = .ok (.iload_n 2, 1) := by decide +kernel
theorem dX6_rule_94 : decode cX6_rule 94 = .ok (.if_icmp .lt 7, 3) := by decide +kernel
theorem dX6_rule_97 : decode cX6_rule 97 = .ok (.iconst 1, 1) := by decide +kernel
theorem dX6_rule_98 : decode cX6_rule 98 = .ok (.goto 4, 3) := by decide +kernel
theorem dX6_rule_101 : decode cX6_rule 101 = .ok (.iconst 0, 1) := by decide +kernel
theorem dX6_rule_102 : decode cX6_rule 102 = .ok (.istore 5, 2) := by decide +kernel
theorem dX6_rule_104 : decode cX6_rule 104 = .ok (.aload_n 0, 1) := by decide +kernel
theorem dX6_rule_105 : decode cX6_rule 105 = .ok (.bipush 67, 2) := by decide +kernel
theorem dX6_rule_107 : decode cX6_rule 107 = .ok (.iload 5, 2) := by decide +kernel
theorem dX6_rule_109 : decode cX6_rule 109 = .ok (.ifCond .eq 19, 3) := by decide +kernel
theorem dX6_rule_112 : decode cX6_rule 112 = .ok (.aload_n 0, 1) := by decide +kernel
theorem dX6_rule_113 : decode cX6_rule 113 = .ok (.invokevirtual 84, 3) := by decide +kernel
theorem dX6_rule_116 : decode cX6_rule 116 = .ok (.ifCond .eq 12, 3) := by decide +kernel
theorem dX6_rule_119 : decode cX6_rule 119 = .ok (.aload_n 0, 1) := by decide +kernel
theorem dX6_rule_120 : decode cX6_rule 120 = .ok (.bipush 67, 2) := by decide +kernel
theorem dX6_rule_122 : decode cX6_rule 122 = .ok (.invokevirtual 41, 3) := by decide +kernel
theorem dX6_rule_125 : decode cX6_rule 125 = .ok (.goto 4, 3) := by decide +kernel
theorem dX6_rule_128 : decode cX6_rule 128 = .ok (.iconst 0, 1) := by decide +kernel
theorem dX6_rule_129 : decode cX6_rule 129 = .ok (.invokevirtual 54, 3) := by decide +kernel
theorem dX6_rule_132 : decode cX6_rule 132 = .ok (.aload_n 0, 1) := by decide +kernel
theorem dX6_rule_133 : decode cX6_rule 133 = .ok (.bipush 66, 2) := by decide +kernel
theorem dX6_rule_135 : decode cX6_rule 135 = .ok (.iload 5, 2) := by decide +kernel
theorem dX6_rule_137 : decode cX6_rule 137 = .ok (.ifCond .eq 7, 3) := by decide +kernel
theorem dX6_rule_140 : decode cX6_rule 140 = .ok (.iconst 1, 1) := by decide +kernel
theorem dX6_rule_141 : decode cX6_rule 141 = .ok (.goto 4, 3) := by decide +kernel
theorem dX6_rule_144 : decode cX6_rule 144 = .ok (.iconst 0, 1) := by decide +kernel
theorem dX6_rule_145 : decode cX6_rule 145 = .ok (.invokevirtual 54, 3) := by decide +kernel
theorem dX6_rule_148 : decode cX6_rule 148 = .ok (.aload_n 0, 1) := by decide +kernel
theorem dX6_rule_149 : decode cX6_rule 149 = .ok (.invokevirtual 113, 3) := by decide +kernel
theorem dX6_rule_152 : decode cX6_rule 152 = .ok (.ifCond .ne 12, 3) := by decide +kernel
theorem dX6_rule_155 : decode cX6_rule 155 = .ok (.aload_n 0, 1) := by decide +kernel
theorem dX6_rule_156 : decode cX6_rule 156 = .ok (.aload_n 0, 1) := by decide +kernel
theorem dX6_rule_157 : decode cX6_rule 157 = .ok (.invokevirtual 102, 3) := by decide +kernel
theorem dX6_rule_160 : decode cX6_rule 160 = .ok (.iconst 0, 1) := by decide +kernel
theorem dX6_rule_161 : decode cX6_rule 161 = .ok (.invokevirtual 105, 3) := by decide +kernel
theorem dX6_rule_164 : decode cX6_rule 164 = .ok (.iload 4, 2) := by decide +kernel
theorem dX6_rule_166 : decode cX6_rule 166 = .ok (.ireturn, 1) := by decide +kernel
theorem dX6_seed_0 : decode cX6_seed 0 = .ok (.iload_n 1, 1) := by decide +kernel
theorem dX6_seed_1 : decode cX6_seed 1 = .ok (.iconst 1, 1) := by decide +kernel
theorem dX6_seed_2 : decode cX6_seed 2 = .ok (.ldc 116, 2) := by decide +kernel
theorem dX6_seed_4 : decode cX6_seed 4 = .ok (.invokestatic 109, 3) := by decide +kernel
theorem dX6_seed_7 : decode cX6_seed 7 = .ok (.ifCond .ne 5, 3) := by decide +kernel
theorem dX6_seed_10 : decode cX6_seed 10 = .ok (.iconst (-1), 1) := by decide +kernel
theorem dX6_seed_11 : decode cX6_seed 11 = .ok (.ireturn, 1) := by decide +kernel
theorem dX6_seed_12 : decode cX6_seed 12 = .ok (.aload_n 0, 1) := by decide +kernel
theorem dX6_seed_13 : decode cX6_seed 13 = .ok (.getfield 7, 3) := by decide +kernel
theorem dX6_seed_16 : decode cX6_seed 16 = .ok (.bipush 72, 2) := by decide +kernel
theorem dX6_seed_18 : decode cX6_seed 18 = .ok (.iload_n 1, 1) := by decide +kernel
theorem dX6_seed_19 : decode cX6_seed 19 = .ok (.iastore, 1) := by decide +kernel
theorem dX6_seed_20 : decode cX6_seed 20 = .ok (.iconst 0, 1) := by decide +kernel
theorem dX6_seed_21 : decode cX6_seed 21 = .ok (.ireturn, 1) := by decide +kernel
theorem dX6_isDisc_0 : decode cX6_isDisc 0 = .ok (.iload_n 0, 1) := by decide +kernel
theorem dX6_isDisc_1 : decode cX6_isDisc 1 = .ok (.iconst 0, 1) := by decide +kernel
theorem dX6_isDisc_2 : decode cX6_isDisc 2 = .ok (.bipush 15, 2) := by decide +kernel
theorem dX6_isDisc_4 : decode cX6_isDisc 4 = .ok (.invokestatic 109, 3) := by decide +kernel
theorem dX6_isDisc_7 : decode cX6_isDisc 7 = .ok (.ireturn, 1) := by decide +kernel
theorem dX6_isSpot_0 : decode cX6_isSpot 0 = .ok (.iload_n 0, 1) := by decide +kernel
theorem dX6_isSpot_1 : decode cX6_isSpot 1 = .ok (.iconst 0, 1) := by decide +kernel
theorem dX6_isSpot_2 : decode cX6_isSpot 2 = .ok (.bipush 40, 2) := by decide +kernel
theorem dX6_isSpot_4 : decode cX6_isSpot 4 = .ok (.invokestatic 109, 3) := by decide +kernel
theorem dX6_isSpot_7 : decode cX6_isSpot 7 = .ok (.ifCond .eq 17, 3) := by decide +kernel
theorem dX6_isSpot_10 : decode cX6_isSpot 10 = .ok (.iload_n 1, 1) := by decide +kernel
theorem dX6_isSpot_11 : decode cX6_isSpot 11 = .ok (.iconst 0, 1) := by decide +kernel
theorem dX6_isSpot_12 : decode cX6_isSpot 12 = .ok (.bipush 40, 2) := by decide +kernel
theorem dX6_isSpot_14 : decode cX6_isSpot 14 = .ok (.invokestatic 109, 3) := by decide +kernel
theorem dX6_isSpot_17 : decode cX6_isSpot 17 = .ok (.ifCond .eq 7, 3) := by decide +kernel
theorem dX6_isSpot_20 : decode cX6_isSpot 20 = .ok (.iconst 1, 1) := by decide +kernel
theorem dX6_isSpot_21 : decode cX6_isSpot 21 = .ok (.goto 4, 3) := by decide +kernel
theorem dX6_isSpot_24 : decode cX6_isSpot 24 = .ok (.iconst 0, 1) := by decide +kernel
theorem dX6_isSpot_25 : decode cX6_isSpot 25 = .ok (.ireturn, 1) := by decide +kernel
theorem dX6_isCup_0 : decode cX6_isCup 0 = .ok (.iload_n 0, 1) := by decide +kernel
theorem dX6_isCup_1 : decode cX6_isCup 1 = .ok (.bipush 41, 2) := by decide +kernel
theorem dX6_isCup_3 : decode cX6_isCup 3 = .ok (.if_icmp .ne 13, 3) := by decide +kernel
theorem dX6_isCup_6 : decode cX6_isCup 6 = .ok (.iload_n 1, 1) := by decide +kernel
theorem dX6_isCup_7 : decode cX6_isCup 7 = .ok (.bipush 41, 2) := by decide +kernel
theorem dX6_isCup_9 : decode cX6_isCup 9 = .ok (.if_icmp .ne 7, 3) := by decide +kernel
theorem dX6_isCup_12 : decode cX6_isCup 12 = .ok (.iconst 1, 1) := by decide +kernel
theorem dX6_isCup_13 : decode cX6_isCup 13 = .ok (.goto 4, 3) := by decide +kernel
theorem dX6_isCup_16 : decode cX6_isCup 16 = .ok (.iconst 0, 1) := by decide +kernel
theorem dX6_isCup_17 : decode cX6_isCup 17 = .ok (.ireturn, 1) := by decide +kernel
theorem dX6_isNowhere_0 : decode cX6_isNowhere 0 = .ok (.iload_n 0, 1) := by decide +kernel
theorem dX6_isNowhere_1 : decode cX6_isNowhere 1 = .ok (.iconst (-1), 1) := by decide +kernel
theorem dX6_isNowhere_2 : decode cX6_isNowhere 2 = .ok (.if_icmp .ne 12, 3) := by decide +kernel
theorem dX6_isNowhere_5 : decode cX6_isNowhere 5 = .ok (.iload_n 1, 1) := by decide +kernel
theorem dX6_isNowhere_6 : decode cX6_isNowhere 6 = .ok (.iconst (-1), 1) := by decide +kernel
theorem dX6_isNowhere_7 : decode cX6_isNowhere 7 = .ok (.if_icmp .ne 7, 3) := by decide +kernel
theorem dX6_isNowhere_10 : decode cX6_isNowhere 10 = .ok (.iconst 1, 1) := by decide +kernel
theorem dX6_isNowhere_11 : decode cX6_isNowhere 11 = .ok (.goto 4, 3) := by decide +kernel
theorem dX6_isNowhere_14 : decode cX6_isNowhere 14 = .ok (.iconst 0, 1) := by decide +kernel
theorem dX6_isNowhere_15 : decode cX6_isNowhere 15 = .ok (.ireturn, 1) := by decide +kernel
theorem dX6_put_0 : decode cX6_put 0 = .ok (.iload_n 1, 1) := by decide +kernel
theorem dX6_put_1 : decode cX6_put 1 = .ok (.invokestatic 117, 3) := by decide +kernel
theorem dX6_put_4 : decode cX6_put 4 = .ok (.ifCond .eq 27, 3) := by decide +kernel
theorem dX6_put_7 : decode cX6_put 7 = .ok (.iload_n 2, 1) := by decide +kernel
theorem dX6_put_8 : decode cX6_put 8 = .ok (.iload_n 3, 1) := by decide +kernel
theorem dX6_put_9 : decode cX6_put 9 = .ok (.invokestatic 120, 3) := by decide +kernel
theorem dX6_put_12 : decode cX6_put 12 = .ok (.ifCond .ne 21, 3) := by decide +kernel
theorem dX6_put_15 : decode cX6_put 15 = .ok (.iload_n 2, 1) := by decide +kernel
theorem dX6_put_16 : decode cX6_put 16 = .ok (.iload_n 3, 1) := by decide +kernel
theorem dX6_put_17 : decode cX6_put 17 = .ok (.invokestatic 123, 3) := by decide +kernel
theorem dX6_put_20 : decode cX6_put 20 = .ok (.ifCond .ne 13, 3) := by decide +kernel
theorem dX6_put_23 : decode cX6_put 23 = .ok (.iload_n 2, 1) := by decide +kernel
theorem dX6_put_24 : decode cX6_put 24 = .ok (.iload_n 3, 1) := by decide +kernel
theorem dX6_put_25 : decode cX6_put 25 = .ok (.invokestatic 126, 3) := by decide +kernel
theorem dX6_put_28 : decode cX6_put 28 = .ok (.ifCond .ne 5, 3) := by decide +kernel
theorem dX6_put_31 : decode cX6_put 31 = .ok (.iconst (-1), 1) := by decide +kernel
theorem dX6_put_32 : decode cX6_put 32 = .ok (.ireturn, 1) := by decide +kernel
theorem dX6_put_33 : decode cX6_put 33 = .ok (.iload_n 2, 1) := by decide +kernel
theorem dX6_put_34 : decode cX6_put 34 = .ok (.iload_n 3, 1) := by decide +kernel
theorem dX6_put_35 : decode cX6_put 35 = .ok (.invokestatic 120, 3) := by decide +kernel
theorem dX6_put_38 : decode cX6_put 38 = .ok (.ifCond .eq 13, 3) := by decide +kernel
theorem dX6_put_41 : decode cX6_put 41 = .ok (.aload_n 0, 1) := by decide +kernel
theorem dX6_put_42 : decode cX6_put 42 = .ok (.iload_n 1, 1) := by decide +kernel
theorem dX6_put_43 : decode cX6_put 43 = .ok (.iload_n 2, 1) := by decide +kernel
theorem dX6_put_44 : decode cX6_put 44 = .ok (.iload_n 3, 1) := by decide +kernel
theorem dX6_put_45 : decode cX6_put 45 = .ok (.invokevirtual 129, 3) := by decide +kernel
theorem dX6_put_48 : decode cX6_put 48 = .ok (.goto 21, 3) := by decide +kernel
theorem dX6_put_51 : decode cX6_put 51 = .ok (.aload_n 0, 1) := by decide +kernel
theorem dX6_put_52 : decode cX6_put 52 = .ok (.iload_n 1, 1) := by decide +kernel
theorem dX6_put_53 : decode cX6_put 53 = .ok (.iload_n 2, 1) := by decide +kernel
theorem dX6_put_54 : decode cX6_put 54 = .ok (.iload_n 3, 1) := by decide +kernel
theorem dX6_put_55 : decode cX6_put 55 = .ok (.invokestatic 123, 3) := by decide +kernel
theorem dX6_put_58 : decode cX6_put 58 = .ok (.ifCond .eq 7, 3) := by decide +kernel
theorem dX6_put_61 : decode cX6_put 61 = .ok (.iconst 2, 1) := by decide +kernel
theorem dX6_put_62 : decode cX6_put 62 = .ok (.goto 4, 3) := by decide +kernel
theorem dX6_put_65 : decode cX6_put 65 = .ok (.iconst 0, 1) := by decide +kernel
theorem dX6_put_66 : decode cX6_put 66 = .ok (.invokevirtual 54, 3) := by decide +kernel
theorem dX6_put_69 : decode cX6_put 69 = .ok (.aload_n 0, 1) := by decide +kernel
theorem dX6_put_70 : decode cX6_put 70 = .ok (.invokevirtual 113, 3) := by decide +kernel
theorem dX6_put_73 : decode cX6_put 73 = .ok (.ifCond .ne 12, 3) := by decide +kernel
theorem dX6_put_76 : decode cX6_put 76 = .ok (.aload_n 0, 1) := by decide +kernel
theorem dX6_put_77 : decode cX6_put 77 = .ok (.aload_n 0, 1) := by decide +kernel
theorem dX6_put_78 : decode cX6_put 78 = .ok (.invokevirtual 102, 3) := by decide +kernel
theorem dX6_put_81 : decode cX6_put 81 = .ok (.iconst 0, 1) := by decide +kernel
theorem dX6_put_82 : decode cX6_put 82 = .ok (.invokevirtual 105, 3) := by decide +kernel
theorem dX6_put_85 : decode cX6_put 85 = .ok (.iconst 0, 1) := by decide +kernel
theorem dX6_put_86 : decode cX6_put 86 = .ok (.ireturn, 1) := by decide +kernel
theorem dX6_about_0 : decode cX6_about 0 = .ok (.iload_n 1, 1) := by decide +kernel
theorem dX6_about_1 : decode cX6_about 1 = .ok (.invokestatic 117, 3) := by decide +kernel
theorem dX6_about_4 : decode cX6_about 4 = .ok (.ifCond .ne 5, 3) := by decide +kernel
theorem dX6_about_7 : decode cX6_about 7 = .ok (.iconst (-1), 1) := by decide +kernel
theorem dX6_about_8 : decode cX6_about 8 = .ok (.ireturn, 1) := by decide +kernel
theorem dX6_about_9 : decode cX6_about 9 = .ok (.iload_n 2, 1) := by decide +kernel
theorem dX6_about_10 : decode cX6_about 10 = .ok (.tableswitch 92 0 6 #[42, 48, 54, 60, 74, 80, 86], 42) := by decide +kernel
theorem dX6_about_52 : decode cX6_about 52 = .ok (.aload_n 0, 1) := by decide +kernel
theorem dX6_about_53 : decode cX6_about 53 = .ok (.iload_n 1, 1) := by decide +kernel
theorem dX6_about_54 : decode cX6_about 54 = .ok (.invokevirtual 45, 3) := by decide +kernel
theorem dX6_about_57 : decode cX6_about 57 = .ok (.ireturn, 1) := by decide +kernel
theorem dX6_about_58 : decode cX6_about 58 = .ok (.aload_n 0, 1) := by decide +kernel
theorem dX6_about_59 : decode cX6_about 59 = .ok (.iload_n 1, 1) := by decide +kernel
theorem dX6_about_60 : decode cX6_about 60 = .ok (.invokevirtual 58, 3) := by decide +kernel
theorem dX6_about_63 : decode cX6_about 63 = .ok (.ireturn, 1) := by decide +kernel
theorem dX6_about_64 : decode cX6_about 64 = .ok (.aload_n 0, 1) := by decide +kernel
theorem dX6_about_65 : decode cX6_about 65 = .ok (.iload_n 1, 1) := by decide +kernel
theorem dX6_about_66 : decode cX6_about 66 = .ok (.invokevirtual 65, 3) := by decide +kernel
theorem dX6_about_69 : decode cX6_about 69 = .ok (.ireturn, 1) := by decide +kernel
theorem dX6_about_70 : decode cX6_about 70 = .ok (.aload_n 0, 1) := by decide +kernel
theorem dX6_about_71 : decode cX6_about 71 = .ok (.iload_n 1, 1) := by decide +kernel
theorem dX6_about_72 : decode cX6_about 72 = .ok (.invokevirtual 81, 3) := by decide +kernel
theorem dX6_about_75 : decode cX6_about 75 = .ok (.ifCond .eq 7, 3) := by decide +kernel
theorem dX6_about_78 : decode cX6_about 78 = .ok (.iconst 1, 1) := by decide +kernel
theorem dX6_about_79 : decode cX6_about 79 = .ok (.goto 4, 3) := by decide +kernel
theorem dX6_about_82 : decode cX6_about 82 = .ok (.iconst 0, 1) := by decide +kernel
theorem dX6_about_83 : decode cX6_about 83 = .ok (.ireturn, 1) := by decide +kernel
theorem dX6_about_84 : decode cX6_about 84 = .ok (.aload_n 0, 1) := by decide +kernel
theorem dX6_about_85 : decode cX6_about 85 = .ok (.iload_n 1, 1) := by decide +kernel
theorem dX6_about_86 : decode cX6_about 86 = .ok (.invokevirtual 78, 3) := by decide +kernel
theorem dX6_about_89 : decode cX6_about 89 = .ok (.ireturn, 1) := by decide +kernel
theorem dX6_about_90 : decode cX6_about 90 = .ok (.aload_n 0, 1) := by decide +kernel
theorem dX6_about_91 : decode cX6_about 91 = .ok (.iload_n 1, 1) := by decide +kernel
theorem dX6_about_92 : decode cX6_about 92 = .ok (.invokevirtual 75, 3) := by decide +kernel
theorem dX6_about_95 : decode cX6_about 95 = .ok (.ireturn, 1) := by decide +kernel
theorem dX6_about_96 : decode cX6_about 96 = .ok (.aload_n 0, 1) := by decide +kernel
theorem dX6_about_97 : decode cX6_about 97 = .ok (.iload_n 1, 1) := by decide +kernel
theorem dX6_about_98 : decode cX6_about 98 = .ok (.invokevirtual 133, 3) := by decide +kernel
theorem dX6_about_101 : decode cX6_about 101 = .ok (.ireturn, 1) := by decide +kernel
theorem dX6_about_102 : decode cX6_about 102 = .ok (.iconst (-1), 1) := by decide +kernel
theorem dX6_about_103 : decode cX6_about 103 = .ok (.ireturn, 1) := by decide +kernel
theorem dX6_draw_0 : decode cX6_draw 0 = .ok (.aload_n 0, 1) := by decide +kernel
theorem dX6_draw_1 : decode cX6_draw 1 = .ok (.getfield 7, 3) := by decide +kernel
theorem dX6_draw_4 : decode cX6_draw 4 = .ok (.bipush 72, 2) := by decide +kernel
theorem dX6_draw_6 : decode cX6_draw 6 = .ok (.aload_n 0, 1) := by decide +kernel
theorem dX6_draw_7 : decode cX6_draw 7 = .ok (.getfield 7, 3) := by decide +kernel
theorem dX6_draw_10 : decode cX6_draw 10 = .ok (.bipush 72, 2) := by decide +kernel
theorem dX6_draw_12 : decode cX6_draw 12 = .ok (.iaload, 1) := by decide +kernel
theorem dX6_draw_13 : decode cX6_draw 13 = .ok (.i2l, 1) := by decide +kernel
theorem dX6_draw_14 : decode cX6_draw 14 = .ok (.ldc2_w 136, 3) := by decide +kernel
theorem dX6_draw_17 : decode cX6_draw 17 = .ok (.lmul, 1) := by decide +kernel
theorem dX6_draw_18 : decode cX6_draw 18 = .ok (.ldc2_w 138, 3) := by decide +kernel
theorem dX6_draw_21 : decode cX6_draw 21 = .ok (.lrem, 1) := by decide +kernel
theorem dX6_draw_22 : decode cX6_draw 22 = .ok (.l2i, 1) := by decide +kernel
theorem dX6_draw_23 : decode cX6_draw 23 = .ok (.iastore, 1) := by decide +kernel
theorem dX6_draw_24 : decode cX6_draw 24 = .ok (.aload_n 0, 1) := by decide +kernel
theorem dX6_draw_25 : decode cX6_draw 25 = .ok (.getfield 7, 3) := by decide +kernel
theorem dX6_draw_28 : decode cX6_draw 28 = .ok (.bipush 72, 2) := by decide +kernel
theorem dX6_draw_30 : decode cX6_draw 30 = .ok (.iaload, 1) := by decide +kernel
theorem dX6_draw_31 : decode cX6_draw 31 = .ok (.iload_n 1, 1) := by decide +kernel
theorem dX6_draw_32 : decode cX6_draw 32 = .ok (.irem, 1) := by decide +kernel
theorem dX6_draw_33 : decode cX6_draw 33 = .ok (.ireturn, 1) := by decide +kernel
theorem dX6_onMat_0 : decode cX6_onMat 0 = .ok (.iload_n 0, 1) := by decide +kernel
theorem dX6_onMat_1 : decode cX6_onMat 1 = .ok (.ifCond .ge 7, 3) := by decide +kernel
theorem dX6_onMat_4 : decode cX6_onMat 4 = .ok (.iconst 0, 1) := by decide +kernel
theorem dX6_onMat_5 : decode cX6_onMat 5 = .ok (.goto 15, 3) := by decide +kernel
theorem dX6_onMat_8 : decode cX6_onMat 8 = .ok (.iload_n 0, 1) := by decide +kernel
theorem dX6_onMat_9 : decode cX6_onMat 9 = .ok (.bipush 40, 2) := by decide +kernel
theorem dX6_onMat_11 : decode cX6_onMat 11 = .ok (.if_icmp .le 8, 3) := by decide +kernel
theorem dX6_onMat_14 : decode cX6_onMat 14 = .ok (.bipush 40, 2) := by decide +kernel
theorem dX6_onMat_16 : decode cX6_onMat 16 = .ok (.goto 4, 3) := by decide +kernel
theorem dX6_onMat_19 : decode cX6_onMat 19 = .ok (.iload_n 0, 1) := by decide +kernel
theorem dX6_onMat_20 : decode cX6_onMat 20 = .ok (.ireturn, 1) := by decide +kernel
theorem dX6_wayOf_0 : decode cX6_wayOf 0 = .ok (.iload_n 2, 1) := by decide +kernel
theorem dX6_wayOf_1 : decode cX6_wayOf 1 = .ok (.iload_n 0, 1) := by decide +kernel
theorem dX6_wayOf_2 : decode cX6_wayOf 2 = .ok (.isub, 1) := by decide +kernel
theorem dX6_wayOf_3 : decode cX6_wayOf 3 = .ok (.invokestatic 140, 3) := by decide +kernel
theorem dX6_wayOf_6 : decode cX6_wayOf 6 = .ok (.istore 4, 2) := by decide +kernel
theorem dX6_wayOf_8 : decode cX6_wayOf 8 = .ok (.iload_n 3, 1) := by decide +kernel
theorem dX6_wayOf_9 : decode cX6_wayOf 9 = .ok (.iload_n 1, 1) := by decide +kernel
theorem dX6_wayOf_10 : decode cX6_wayOf 10 = .ok (.isub, 1) := by decide +kernel
theorem dX6_wayOf_11 : decode cX6_wayOf 11 = .ok (.invokestatic 140, 3) := by decide +kernel
theorem dX6_wayOf_14 : decode cX6_wayOf 14 = .ok (.istore 5, 2) := by decide +kernel
theorem dX6_wayOf_16 : decode cX6_wayOf 16 = .ok (.iload 4, 2) := by decide +kernel
theorem dX6_wayOf_18 : decode cX6_wayOf 18 = .ok (.iload 5, 2) := by decide +kernel
theorem dX6_wayOf_20 : decode cX6_wayOf 20 = .ok (.if_icmp .le 8, 3) := by decide +kernel
theorem dX6_wayOf_23 : decode cX6_wayOf 23 = .ok (.iload 4, 2) := by decide +kernel
theorem dX6_wayOf_25 : decode cX6_wayOf 25 = .ok (.goto 5, 3) := by decide +kernel
theorem dX6_wayOf_28 : decode cX6_wayOf 28 = .ok (.iload 5, 2) := by decide +kernel
theorem dX6_wayOf_30 : decode cX6_wayOf 30 = .ok (.ireturn, 1) := by decide +kernel
theorem dX6_mayShoot_0 : decode cX6_mayShoot 0 = .ok (.aload_n 0, 1) := by decide +kernel
theorem dX6_mayShoot_1 : decode cX6_mayShoot 1 = .ok (.invokevirtual 113, 3) := by decide +kernel
theorem dX6_mayShoot_4 : decode cX6_mayShoot 4 = .ok (.ifCond .ne 25, 3) := by decide +kernel
theorem dX6_mayShoot_7 : decode cX6_mayShoot 7 = .ok (.iload_n 1, 1) := by decide +kernel
theorem dX6_mayShoot_8 : decode cX6_mayShoot 8 = .ok (.iconst 4, 1) := by decide +kernel
theorem dX6_mayShoot_9 : decode cX6_mayShoot 9 = .ok (.irem, 1) := by decide +kernel
theorem dX6_mayShoot_10 : decode cX6_mayShoot 10 = .ok (.aload_n 0, 1) := by decide +kernel
theorem dX6_mayShoot_11 : decode cX6_mayShoot 11 = .ok (.invokevirtual 102, 3) := by decide +kernel
theorem dX6_mayShoot_14 : decode cX6_mayShoot 14 = .ok (.if_icmp .ne 15, 3) := by decide +kernel
theorem dX6_mayShoot_17 : decode cX6_mayShoot 17 = .ok (.aload_n 0, 1) := by decide +kernel
theorem dX6_mayShoot_18 : decode cX6_mayShoot 18 = .ok (.iload_n 1, 1) := by decide +kernel
theorem dX6_mayShoot_19 : decode cX6_mayShoot 19 = .ok (.invokevirtual 81, 3) := by decide +kernel
theorem dX6_mayShoot_22 : decode cX6_mayShoot 22 = .ok (.ifCond .eq 7, 3) := by decide +kernel
theorem dX6_mayShoot_25 : decode cX6_mayShoot 25 = .ok (.iconst 1, 1) := by decide +kernel
theorem dX6_mayShoot_26 : decode cX6_mayShoot 26 = .ok (.goto 4, 3) := by decide +kernel
theorem dX6_mayShoot_29 : decode cX6_mayShoot 29 = .ok (.iconst 0, 1) := by decide +kernel
theorem dX6_mayShoot_30 : decode cX6_mayShoot 30 = .ok (.ireturn, 1) := by decide +kernel
theorem dX6_shoot_0 : decode cX6_shoot 0 = .ok (.iload_n 1, 1) := by decide +kernel
theorem dX6_shoot_1 : decode cX6_shoot 1 = .ok (.invokestatic 117, 3) := by decide +kernel
theorem dX6_shoot_4 : decode cX6_shoot 4 = .ok (.ifCond .eq 11, 3) := by decide +kernel
theorem dX6_shoot_7 : decode cX6_shoot 7 = .ok (.iload_n 2, 1) := by decide +kernel
theorem dX6_shoot_8 : decode cX6_shoot 8 = .ok (.iload_n 3, 1) := by decide +kernel
theorem dX6_shoot_9 : decode cX6_shoot 9 = .ok (.invokestatic 120, 3) := by decide +kernel
theorem dX6_shoot_12 : decode cX6_shoot 12 = .ok (.ifCond .ne 5, 3) := by decide +kernel
theorem dX6_shoot_15 : decode cX6_shoot 15 = .ok (.iconst (-1), 1) := by decide +kernel
theorem dX6_shoot_16 : decode cX6_shoot 16 = .ok (.ireturn, 1) := by decide +kernel
theorem dX6_shoot_17 : decode cX6_shoot 17 = .ok (.aload_n 0, 1) := by decide +kernel
theorem dX6_shoot_18 : decode cX6_shoot 18 = .ok (.iload_n 1, 1) := by decide +kernel
theorem dX6_shoot_19 : decode cX6_shoot 19 = .ok (.invokevirtual 143, 3) := by decide +kernel
theorem dX6_shoot_22 : decode cX6_shoot 22 = .ok (.ifCond .ne 6, 3) := by decide +kernel
theorem dX6_shoot_25 : decode cX6_shoot 25 = .ok (.bipush (-2), 2) := by decide +kernel
theorem dX6_shoot_27 : decode cX6_shoot 27 = .ok (.ireturn, 1) := by decide +kernel
theorem dX6_shoot_28 : decode cX6_shoot 28 = .ok (.aload_n 0, 1) := by decide +kernel
theorem dX6_shoot_29 : decode cX6_shoot 29 = .ok (.iload_n 1, 1) := by decide +kernel
theorem dX6_shoot_30 : decode cX6_shoot 30 = .ok (.invokevirtual 58, 3) := by decide +kernel
theorem dX6_shoot_33 : decode cX6_shoot 33 = .ok (.istore 4, 2) := by decide +kernel
theorem dX6_shoot_35 : decode cX6_shoot 35 = .ok (.aload_n 0, 1) := by decide +kernel
theorem dX6_shoot_36 : decode cX6_shoot 36 = .ok (.iload_n 1, 1) := by decide +kernel
theorem dX6_shoot_37 : decode cX6_shoot 37 = .ok (.invokevirtual 65, 3) := by decide +kernel
theorem dX6_shoot_40 : decode cX6_shoot 40 = .ok (.istore 5, 2) := by decide +kernel
theorem dX6_shoot_42 : decode cX6_shoot 42 = .ok (.iload 4, 2) := by decide +kernel
theorem dX6_shoot_44 : decode cX6_shoot 44 = .ok (.iload 5, 2) := by decide +kernel
theorem dX6_shoot_46 : decode cX6_shoot 46 = .ok (.iload_n 2, 1) := by decide +kernel
theorem dX6_shoot_47 : decode cX6_shoot 47 = .ok (.iload_n 3, 1) := by decide +kernel
theorem dX6_shoot_48 : decode cX6_shoot 48 = .ok (.invokestatic 146, 3) := by decide +kernel
theorem dX6_shoot_51 : decode cX6_shoot 51 = .ok (.bipush 8, 2) := by decide +kernel
theorem dX6_shoot_53 : decode cX6_shoot 53 = .ok (.idiv, 1) := by decide +kernel
theorem dX6_shoot_54 : decode cX6_shoot 54 = .ok (.iload_n 1, 1) := by decide +kernel
theorem dX6_shoot_55 : decode cX6_shoot 55 = .ok (.invokestatic 68, 3) := by decide +kernel
theorem dX6_shoot_58 : decode cX6_shoot 58 = .ok (.iadd, 1) := by decide +kernel
theorem dX6_shoot_59 : decode cX6_shoot 59 = .ok (.iconst 1, 1) := by decide +kernel
theorem dX6_shoot_60 : decode cX6_shoot 60 = .ok (.isub, 1) := by decide +kernel
theorem dX6_shoot_61 : decode cX6_shoot 61 = .ok (.aload_n 0, 1) := by decide +kernel
theorem dX6_shoot_62 : decode cX6_shoot 62 = .ok (.getfield 7, 3) := by decide +kernel
theorem dX6_shoot_65 : decode cX6_shoot 65 = .ok (.bipush 69, 2) := by decide +kernel
theorem dX6_shoot_67 : decode cX6_shoot 67 = .ok (.iaload, 1) := by decide +kernel
theorem dX6_shoot_68 : decode cX6_shoot 68 = .ok (.iadd, 1) := by decide +kernel
theorem dX6_shoot_69 : decode cX6_shoot 69 = .ok (.istore 6, 2) := by decide +kernel
theorem dX6_shoot_71 : decode cX6_shoot 71 = .ok (.iload_n 2, 1) := by decide +kernel
theorem dX6_shoot_72 : decode cX6_shoot 72 = .ok (.aload_n 0, 1) := by decide +kernel
theorem dX6_shoot_73 : decode cX6_shoot 73 = .ok (.iconst 2, 1) := by decide +kernel
theorem dX6_shoot_74 : decode cX6_shoot 74 = .ok (.iload 6, 2) := by decide +kernel
theorem dX6_shoot_76 : decode cX6_shoot 76 = .ok (.imul, 1) := by decide +kernel
theorem dX6_shoot_77 : decode cX6_shoot 77 = .ok (.iconst 1, 1) := by decide +kernel
theorem dX6_shoot_78 : decode cX6_shoot 78 = .ok (.iadd, 1) := by decide +kernel
theorem dX6_shoot_79 : decode cX6_shoot 79 = .ok (.invokevirtual 150, 3) := by decide +kernel
theorem dX6_shoot_82 : decode cX6_shoot 82 = .ok (.iadd, 1) := by decide +kernel
theorem dX6_shoot_83 : decode cX6_shoot 83 = .ok (.iload 6, 2) := by decide +kernel
theorem dX6_shoot_85 : decode cX6_shoot 85 = .ok (.isub, 1) := by decide +kernel
theorem dX6_shoot_86 : decode cX6_shoot 86 = .ok (.istore 7, 2) := by decide +kernel
theorem dX6_shoot_88 : decode cX6_shoot 88 = .ok (.iload_n 3, 1) := by decide +kernel
theorem dX6_shoot_89 : decode cX6_shoot 89 = .ok (.aload_n 0, 1) := by decide +kernel
theorem dX6_shoot_90 : decode cX6_shoot 90 = .ok (.iconst 2, 1) := by decide +kernel
theorem dX6_shoot_91 : decode cX6_shoot 91 = .ok (.iload 6, 2) := by decide +kernel
theorem dX6_shoot_93 : decode cX6_shoot 93 = .ok (.imul, 1) := by decide +kernel
theorem dX6_shoot_94 : decode cX6_shoot 94 = .ok (.iconst 1, 1) := by decide +kernel
theorem dX6_shoot_95 : decode cX6_shoot 95 = .ok (.iadd, 1) := by decide +kernel
theorem dX6_shoot_96 : decode cX6_shoot 96 = .ok (.invokevirtual 150, 3) := by decide +kernel
theorem dX6_shoot_99 : decode cX6_shoot 99 = .ok (.iadd, 1) := by decide +kernel
theorem dX6_shoot_100 : decode cX6_shoot 100 = .ok (.iload 6, 2) := by decide +kernel
theorem dX6_shoot_102 : decode cX6_shoot 102 = .ok (.isub, 1) := by decide +kernel
theorem dX6_shoot_103 : decode cX6_shoot 103 = .ok (.istore 8, 2) := by decide +kernel
theorem dX6_shoot_105 : decode cX6_shoot 105 = .ok (.iload 7, 2) := by decide +kernel
theorem dX6_shoot_107 : decode cX6_shoot 107 = .ok (.bipush 20, 2) := by decide +kernel
theorem dX6_shoot_109 : decode cX6_shoot 109 = .ok (.isub, 1) := by decide +kernel
theorem dX6_shoot_110 : decode cX6_shoot 110 = .ok (.istore 9, 2) := by decide +kernel
theorem dX6_shoot_112 : decode cX6_shoot 112 = .ok (.iload 8, 2) := by decide +kernel
theorem dX6_shoot_114 : decode cX6_shoot 114 = .ok (.bipush 20, 2) := by decide +kernel
theorem dX6_shoot_116 : decode cX6_shoot 116 = .ok (.isub, 1) := by decide +kernel
theorem dX6_shoot_117 : decode cX6_shoot 117 = .ok (.istore 10, 2) := by decide +kernel
theorem dX6_shoot_119 : decode cX6_shoot 119 = .ok (.iload 9, 2) := by decide +kernel
theorem dX6_shoot_121 : decode cX6_shoot 121 = .ok (.iload 9, 2) := by decide +kernel
theorem dX6_shoot_123 : decode cX6_shoot 123 = .ok (.imul, 1) := by decide +kernel
theorem dX6_shoot_124 : decode cX6_shoot 124 = .ok (.iload 10, 2) := by decide +kernel
theorem dX6_shoot_126 : decode cX6_shoot 126 = .ok (.iload 10, 2) := by decide +kernel
theorem dX6_shoot_128 : decode cX6_shoot 128 = .ok (.imul, 1) := by decide +kernel
theorem dX6_shoot_129 : decode cX6_shoot 129 = .ok (.iadd, 1) := by decide +kernel
theorem dX6_shoot_130 : decode cX6_shoot 130 = .ok (.iconst 4, 1) := by decide +kernel
theorem dX6_shoot_131 : decode cX6_shoot 131 = .ok (.if_icmp .gt 7, 3) := by decide +kernel
theorem dX6_shoot_134 : decode cX6_shoot 134 = .ok (.iconst 1, 1) := by decide +kernel
theorem dX6_shoot_135 : decode cX6_shoot 135 = .ok (.goto 4, 3) := by decide +kernel
theorem dX6_shoot_138 : decode cX6_shoot 138 = .ok (.iconst 0, 1) := by decide +kernel
theorem dX6_shoot_139 : decode cX6_shoot 139 = .ok (.istore 11, 2) := by decide +kernel
theorem dX6_shoot_141 : decode cX6_shoot 141 = .ok (.iload 11, 2) := by decide +kernel
theorem dX6_shoot_143 : decode cX6_shoot 143 = .ok (.ifCond .eq 12, 3) := by decide +kernel
theorem dX6_shoot_146 : decode cX6_shoot 146 = .ok (.aload_n 0, 1) := by decide +kernel
theorem dX6_shoot_147 : decode cX6_shoot 147 = .ok (.iload_n 1, 1) := by decide +kernel
theorem dX6_shoot_148 : decode cX6_shoot 148 = .ok (.iconst 2, 1) := by decide +kernel
theorem dX6_shoot_149 : decode cX6_shoot 149 = .ok (.invokevirtual 54, 3) := by decide +kernel
theorem dX6_shoot_152 : decode cX6_shoot 152 = .ok (.goto 50, 3) := by decide +kernel
theorem dX6_shoot_155 : decode cX6_shoot 155 = .ok (.aload_n 0, 1) := by decide +kernel
theorem dX6_shoot_156 : decode cX6_shoot 156 = .ok (.iload_n 1, 1) := by decide +kernel
theorem dX6_shoot_157 : decode cX6_shoot 157 = .ok (.iload 7, 2) := by decide +kernel
theorem dX6_shoot_159 : decode cX6_shoot 159 = .ok (.aload_n 0, 1) := by decide +kernel
theorem dX6_shoot_160 : decode cX6_shoot 160 = .ok (.getfield 7, 3) := by decide +kernel
theorem dX6_shoot_163 : decode cX6_shoot 163 = .ok (.bipush 70, 2) := by decide +kernel
theorem dX6_shoot_165 : decode cX6_shoot 165 = .ok (.iaload, 1) := by decide +kernel
theorem dX6_shoot_166 : decode cX6_shoot 166 = .ok (.iload_n 2, 1) := by decide +kernel
theorem dX6_shoot_167 : decode cX6_shoot 167 = .ok (.iload 4, 2) := by decide +kernel
theorem dX6_shoot_169 : decode cX6_shoot 169 = .ok (.isub, 1) := by decide +kernel
theorem dX6_shoot_170 : decode cX6_shoot 170 = .ok (.invokestatic 153, 3) := by decide +kernel
theorem dX6_shoot_173 : decode cX6_shoot 173 = .ok (.imul, 1) := by decide +kernel
theorem dX6_shoot_174 : decode cX6_shoot 174 = .ok (.iadd, 1) := by decide +kernel
theorem dX6_shoot_175 : decode cX6_shoot 175 = .ok (.invokestatic 156, 3) := by decide +kernel
theorem dX6_shoot_178 : decode cX6_shoot 178 = .ok (.iload 8, 2) := by decide +kernel
theorem dX6_shoot_180 : decode cX6_shoot 180 = .ok (.aload_n 0, 1) := by decide +kernel
theorem dX6_shoot_181 : decode cX6_shoot 181 = .ok (.getfield 7, 3) := by decide +kernel
theorem dX6_shoot_184 : decode cX6_shoot 184 = .ok (.bipush 70, 2) := by decide +kernel
theorem dX6_shoot_186 : decode cX6_shoot 186 = .ok (.iaload, 1) := by decide +kernel
theorem dX6_shoot_187 : decode cX6_shoot 187 = .ok (.iload_n 3, 1) := by decide +kernel
theorem dX6_shoot_188 : decode cX6_shoot 188 = .ok (.iload 5, 2) := by decide +kernel
theorem dX6_shoot_190 : decode cX6_shoot 190 = .ok (.isub, 1) := by decide +kernel
theorem dX6_shoot_191 : decode cX6_shoot 191 = .ok (.invokestatic 153, 3) := by decide +kernel
theorem dX6_shoot_194 : decode cX6_shoot 194 = .ok (.imul, 1) := by decide +kernel
theorem dX6_shoot_195 : decode cX6_shoot 195 = .ok (.iadd, 1) := by decide +kernel
theorem dX6_shoot_196 : decode cX6_shoot 196 = .ok (.invokestatic 156, 3) := by decide +kernel
theorem dX6_shoot_199 : decode cX6_shoot 199 = .ok (.invokevirtual 129, 3) := by decide +kernel
theorem dX6_shoot_202 : decode cX6_shoot 202 = .ok (.aload_n 0, 1) := by decide +kernel
theorem dX6_shoot_203 : decode cX6_shoot 203 = .ok (.iload 11, 2) := by decide +kernel
theorem dX6_shoot_205 : decode cX6_shoot 205 = .ok (.invokevirtual 159, 3) := by decide +kernel
theorem dX6_shoot_208 : decode cX6_shoot 208 = .ok (.iload 11, 2) := by decide +kernel
theorem dX6_shoot_210 : decode cX6_shoot 210 = .ok (.ifCond .eq 7, 3) := by decide +kernel
theorem dX6_shoot_213 : decode cX6_shoot 213 = .ok (.iconst 1, 1) := by decide +kernel
theorem dX6_shoot_214 : decode cX6_shoot 214 = .ok (.goto 4, 3) := by decide +kernel
theorem dX6_shoot_217 : decode cX6_shoot 217 = .ok (.iconst 0, 1) := by decide +kernel
theorem dX6_shoot_218 : decode cX6_shoot 218 = .ok (.ireturn, 1) := by decide +kernel
theorem dX6_blow_0 : decode cX6_blow 0 = .ok (.iload_n 1, 1) := by decide +kernel
theorem dX6_blow_1 : decode cX6_blow 1 = .ok (.invokestatic 117, 3) := by decide +kernel
theorem dX6_blow_4 : decode cX6_blow 4 = .ok (.ifCond .ne 5, 3) := by decide +kernel
theorem dX6_blow_7 : decode cX6_blow 7 = .ok (.iconst (-1), 1) := by decide +kernel
theorem dX6_blow_8 : decode cX6_blow 8 = .ok (.ireturn, 1) := by decide +kernel
theorem dX6_blow_9 : decode cX6_blow 9 = .ok (.aload_n 0, 1) := by decide +kernel
theorem dX6_blow_10 : decode cX6_blow 10 = .ok (.iload_n 1, 1) := by decide +kernel
theorem dX6_blow_11 : decode cX6_blow 11 = .ok (.invokevirtual 133, 3) := by decide +kernel
theorem dX6_blow_14 : decode cX6_blow 14 = .ok (.istore_n 2, 1) := by decide +kernel
theorem dX6_blow_15 : decode cX6_blow 15 = .ok (.aload_n 0, 1) := by decide +kernel
theorem dX6_blow_16 : decode cX6_blow 16 = .ok (.iload_n 1, 1) := by decide +kernel
theorem dX6_blow_17 : decode cX6_blow 17 = .ok (.invokevirtual 143, 3) := by decide +kernel
theorem dX6_blow_20 : decode cX6_blow 20 = .ok (.ifCond .eq 11, 3) := by decide +kernel
theorem dX6_blow_23 : decode cX6_blow 23 = .ok (.iload_n 2, 1) := by decide +kernel
theorem dX6_blow_24 : decode cX6_blow 24 = .ok (.iload_n 2, 1) := by decide +kernel
theorem dX6_blow_25 : decode cX6_blow 25 = .ok (.iconst 1, 1) := by decide +kernel
theorem dX6_blow_26 : decode cX6_blow 26 = .ok (.isub, 1) := by decide +kernel
theorem dX6_blow_27 : decode cX6_blow 27 = .ok (.iand, 1) := by decide +kernel
theorem dX6_blow_28 : decode cX6_blow 28 = .ok (.ifCond .ne 6, 3) := by decide +kernel
theorem dX6_blow_31 : decode cX6_blow 31 = .ok (.bipush (-2), 2) := by decide +kernel
theorem dX6_blow_33 : decode cX6_blow 33 = .ok (.ireturn, 1) := by decide +kernel
theorem dX6_blow_34 : decode cX6_blow 34 = .ok (.iconst 0, 1) := by decide +kernel
theorem dX6_blow_35 : decode cX6_blow 35 = .ok (.istore_n 3, 1) := by decide +kernel
theorem dX6_blow_36 : decode cX6_blow 36 = .ok (.iload_n 3, 1) := by decide +kernel
theorem dX6_blow_37 : decode cX6_blow 37 = .ok (.bipush 16, 2) := by decide +kernel
theorem dX6_blow_39 : decode cX6_blow 39 = .ok (.if_icmp .ge 65, 3) := by decide +kernel
theorem dX6_blow_42 : decode cX6_blow 42 = .ok (.iload_n 2, 1) := by decide +kernel
theorem dX6_blow_43 : decode cX6_blow 43 = .ok (.iload_n 3, 1) := by decide +kernel
theorem dX6_blow_44 : decode cX6_blow 44 = .ok (.ishr, 1) := by decide +kernel
theorem dX6_blow_45 : decode cX6_blow 45 = .ok (.iconst 1, 1) := by decide +kernel
theorem dX6_blow_46 : decode cX6_blow 46 = .ok (.iand, 1) := by decide +kernel
theorem dX6_blow_47 : decode cX6_blow 47 = .ok (.iconst 1, 1) := by decide +kernel
theorem dX6_blow_48 : decode cX6_blow 48 = .ok (.if_icmp .ne 50, 3) := by decide +kernel
theorem dX6_blow_51 : decode cX6_blow 51 = .ok (.aload_n 0, 1) := by decide +kernel
theorem dX6_blow_52 : decode cX6_blow 52 = .ok (.iload_n 3, 1) := by decide +kernel
theorem dX6_blow_53 : decode cX6_blow 53 = .ok (.invokevirtual 58, 3) := by decide +kernel
theorem dX6_blow_56 : decode cX6_blow 56 = .ok (.aload_n 0, 1) := by decide +kernel
theorem dX6_blow_57 : decode cX6_blow 57 = .ok (.bipush 7, 2) := by decide +kernel
theorem dX6_blow_59 : decode cX6_blow 59 = .ok (.invokevirtual 150, 3) := by decide +kernel
theorem dX6_blow_62 : decode cX6_blow 62 = .ok (.iadd, 1) := by decide +kernel
theorem dX6_blow_63 : decode cX6_blow 63 = .ok (.iconst 3, 1) := by decide +kernel
theorem dX6_blow_64 : decode cX6_blow 64 = .ok (.isub, 1) := by decide +kernel
theorem dX6_blow_65 : decode cX6_blow 65 = .ok (.istore 4, 2) := by decide +kernel
theorem dX6_blow_67 : decode cX6_blow 67 = .ok (.aload_n 0, 1) := by decide +kernel
theorem dX6_blow_68 : decode cX6_blow 68 = .ok (.iload_n 3, 1) := by decide +kernel
theorem dX6_blow_69 : decode cX6_blow 69 = .ok (.invokevirtual 65, 3) := by decide +kernel
theorem dX6_blow_72 : decode cX6_blow 72 = .ok (.aload_n 0, 1) := by decide +kernel
theorem dX6_blow_73 : decode cX6_blow 73 = .ok (.bipush 7, 2) := by decide +kernel
theorem dX6_blow_75 : decode cX6_blow 75 = .ok (.invokevirtual 150, 3) := by decide +kernel
theorem dX6_blow_78 : decode cX6_blow 78 = .ok (.iadd, 1) := by decide +kernel
theorem dX6_blow_79 : decode cX6_blow 79 = .ok (.iconst 3, 1) := by decide +kernel
theorem dX6_blow_80 : decode cX6_blow 80 = .ok (.isub, 1) := by decide +kernel
theorem dX6_blow_81 : decode cX6_blow 81 = .ok (.istore 5, 2) := by decide +kernel
theorem dX6_blow_83 : decode cX6_blow 83 = .ok (.aload_n 0, 1) := by decide +kernel
theorem dX6_blow_84 : decode cX6_blow 84 = .ok (.iload_n 3, 1) := by decide +kernel
theorem dX6_blow_85 : decode cX6_blow 85 = .ok (.iload 4, 2) := by decide +kernel
theorem dX6_blow_87 : decode cX6_blow 87 = .ok (.invokestatic 156, 3) := by decide +kernel
theorem dX6_blow_90 : decode cX6_blow 90 = .ok (.iload 5, 2) := by decide +kernel
theorem dX6_blow_92 : decode cX6_blow 92 = .ok (.invokestatic 156, 3) := by decide +kernel
theorem dX6_blow_95 : decode cX6_blow 95 = .ok (.invokevirtual 129, 3) := by decide +kernel
theorem dX6_blow_98 : decode cX6_blow 98 = .ok (.iinc 3 1, 3) := by decide +kernel
theorem dX6_blow_101 : decode cX6_blow 101 = .ok (.goto (-65), 3) := by decide +kernel
theorem dX6_blow_104 : decode cX6_blow 104 = .ok (.aload_n 0, 1) := by decide +kernel
theorem dX6_blow_105 : decode cX6_blow 105 = .ok (.iconst 0, 1) := by decide +kernel
theorem dX6_blow_106 : decode cX6_blow 106 = .ok (.invokevirtual 159, 3) := by decide +kernel
theorem dX6_blow_109 : decode cX6_blow 109 = .ok (.iload_n 2, 1) := by decide +kernel
theorem dX6_blow_110 : decode cX6_blow 110 = .ok (.ireturn, 1) := by decide +kernel
theorem dX6_game_0 : decode cX6_game 0 = .ok (.aload_n 0, 1) := by decide +kernel
theorem dX6_game_1 : decode cX6_game 1 = .ok (.invokevirtual 113, 3) := by decide +kernel
theorem dX6_game_4 : decode cX6_game 4 = .ok (.istore_n 2, 1) := by decide +kernel
theorem dX6_game_5 : decode cX6_game 5 = .ok (.iload_n 1, 1) := by decide +kernel
theorem dX6_game_6 : decode cX6_game 6 = .ok (.tableswitch 115 0 4 #[34, 48, 53, 88, 98], 34) := by decide +kernel
theorem dX6_game_40 : decode cX6_game 40 = .ok (.iload_n 2, 1) := by decide +kernel
theorem dX6_game_41 : decode cX6_game 41 = .ok (.ifCond .eq 8, 3) := by decide +kernel
theorem dX6_game_44 : decode cX6_game 44 = .ok (.bipush (-4), 2) := by decide +kernel
theorem dX6_game_46 : decode cX6_game 46 = .ok (.goto 7, 3) := by decide +kernel
theorem dX6_game_49 : decode cX6_game 49 = .ok (.aload_n 0, 1) := by decide +kernel
theorem dX6_game_50 : decode cX6_game 50 = .ok (.invokevirtual 102, 3) := by decide +kernel
theorem dX6_game_53 : decode cX6_game 53 = .ok (.ireturn, 1) := by decide +kernel
theorem dX6_game_54 : decode cX6_game 54 = .ok (.aload_n 0, 1) := by decide +kernel
theorem dX6_game_55 : decode cX6_game 55 = .ok (.invokevirtual 98, 3) := by decide +kernel
theorem dX6_game_58 : decode cX6_game 58 = .ok (.ireturn, 1) := by decide +kernel
theorem dX6_game_59 : decode cX6_game 59 = .ok (.aload_n 0, 1) := by decide +kernel
theorem dX6_game_60 : decode cX6_game 60 = .ok (.invokevirtual 84, 3) := by decide +kernel
theorem dX6_game_63 : decode cX6_game 63 = .ok (.ifCond .ne 8, 3) := by decide +kernel
theorem dX6_game_66 : decode cX6_game 66 = .ok (.bipush (-4), 2) := by decide +kernel
theorem dX6_game_68 : decode cX6_game 68 = .ok (.goto 25, 3) := by decide +kernel
theorem dX6_game_71 : decode cX6_game 71 = .ok (.aload_n 0, 1) := by decide +kernel
theorem dX6_game_72 : decode cX6_game 72 = .ok (.bipush 67, 2) := by decide +kernel
theorem dX6_game_74 : decode cX6_game 74 = .ok (.invokevirtual 41, 3) := by decide +kernel
theorem dX6_game_77 : decode cX6_game 77 = .ok (.ifCond .ne 7, 3) := by decide +kernel
theorem dX6_game_80 : decode cX6_game 80 = .ok (.iconst 5, 1) := by decide +kernel
theorem dX6_game_81 : decode cX6_game 81 = .ok (.goto 12, 3) := by decide +kernel
theorem dX6_game_84 : decode cX6_game 84 = .ok (.bipush 6, 2) := by decide +kernel
theorem dX6_game_86 : decode cX6_game 86 = .ok (.aload_n 0, 1) := by decide +kernel
theorem dX6_game_87 : decode cX6_game 87 = .ok (.bipush 67, 2) := by decide +kernel
theorem dX6_game_89 : decode cX6_game 89 = .ok (.invokevirtual 41, 3) := by decide +kernel
theorem dX6_game_92 : decode cX6_game 92 = .ok (.isub, 1) := by decide +kernel
theorem dX6_game_93 : decode cX6_game 93 = .ok (.ireturn, 1) := by decide +kernel
theorem dX6_game_94 : decode cX6_game 94 = .ok (.iload_n 2, 1) := by decide +kernel
theorem dX6_game_95 : decode cX6_game 95 = .ok (.ifCond .eq 7, 3) := by decide +kernel
theorem dX6_game_98 : decode cX6_game 98 = .ok (.iconst 1, 1) := by decide +kernel
theorem dX6_game_99 : decode cX6_game 99 = .ok (.goto 4, 3) := by decide +kernel
theorem dX6_game_102 : decode cX6_game 102 = .ok (.iconst 0, 1) := by decide +kernel
theorem dX6_game_103 : decode cX6_game 103 = .ok (.ireturn, 1) := by decide +kernel
theorem dX6_game_104 : decode cX6_game 104 = .ok (.iload_n 2, 1) := by decide +kernel
theorem dX6_game_105 : decode cX6_game 105 = .ok (.ifCond .eq 7, 3) := by decide +kernel
theorem dX6_game_108 : decode cX6_game 108 = .ok (.iconst 0, 1) := by decide +kernel
theorem dX6_game_109 : decode cX6_game 109 = .ok (.goto 11, 3) := by decide +kernel
theorem dX6_game_112 : decode cX6_game 112 = .ok (.aload_n 0, 1) := by decide +kernel
theorem dX6_game_113 : decode cX6_game 113 = .ok (.aload_n 0, 1) := by decide +kernel
theorem dX6_game_114 : decode cX6_game 114 = .ok (.invokevirtual 102, 3) := by decide +kernel
theorem dX6_game_117 : decode cX6_game 117 = .ok (.invokevirtual 91, 3) := by decide +kernel
theorem dX6_game_120 : decode cX6_game 120 = .ok (.ireturn, 1) := by decide +kernel
theorem dX6_game_121 : decode cX6_game 121 = .ok (.iconst (-1), 1) := by decide +kernel
theorem dX6_game_122 : decode cX6_game 122 = .ok (.ireturn, 1) := by decide +kernel
theorem dX6_isPlayer_0 : decode cX6_isPlayer 0 = .ok (.iload_n 0, 1) := by decide +kernel
theorem dX6_isPlayer_1 : decode cX6_isPlayer 1 = .ok (.iconst 0, 1) := by decide +kernel
theorem dX6_isPlayer_2 : decode cX6_isPlayer 2 = .ok (.iconst 3, 1) := by decide +kernel
theorem dX6_isPlayer_3 : decode cX6_isPlayer 3 = .ok (.invokestatic 109, 3) := by decide +kernel
theorem dX6_isPlayer_6 : decode cX6_isPlayer 6 = .ok (.ireturn, 1) := by decide +kernel
theorem dX6_scoreOf_0 : decode cX6_scoreOf 0 = .ok (.iconst 0, 1) := by decide +kernel
theorem dX6_scoreOf_1 : decode cX6_scoreOf 1 = .ok (.istore_n 2, 1) := by decide +kernel
theorem dX6_scoreOf_2 : decode cX6_scoreOf 2 = .ok (.iload_n 1, 1) := by decide +kernel
theorem dX6_scoreOf_3 : decode cX6_scoreOf 3 = .ok (.istore_n 3, 1) := by decide +kernel
theorem dX6_scoreOf_4 : decode cX6_scoreOf 4 = .ok (.iload_n 3, 1) := by decide +kernel
theorem dX6_scoreOf_5 : decode cX6_scoreOf 5 = .ok (.bipush 16, 2) := by decide +kernel
theorem dX6_scoreOf_7 : decode cX6_scoreOf 7 = .ok (.if_icmp .ge 47, 3) := by decide +kernel
theorem dX6_scoreOf_10 : decode cX6_scoreOf 10 = .ok (.iload_n 2, 1) := by decide +kernel
theorem dX6_scoreOf_11 : decode cX6_scoreOf 11 = .ok (.aload_n 0, 1) := by decide +kernel
theorem dX6_scoreOf_12 : decode cX6_scoreOf 12 = .ok (.iload_n 3, 1) := by decide +kernel
theorem dX6_scoreOf_13 : decode cX6_scoreOf 13 = .ok (.invokevirtual 45, 3) := by decide +kernel
theorem dX6_scoreOf_16 : decode cX6_scoreOf 16 = .ok (.iconst 2, 1) := by decide +kernel
theorem dX6_scoreOf_17 : decode cX6_scoreOf 17 = .ok (.if_icmp .ne 7, 3) := by decide +kernel
theorem dX6_scoreOf_20 : decode cX6_scoreOf 20 = .ok (.iconst 3, 1) := by decide +kernel
theorem dX6_scoreOf_21 : decode cX6_scoreOf 21 = .ok (.goto 25, 3) := by decide +kernel
theorem dX6_scoreOf_24 : decode cX6_scoreOf 24 = .ok (.aload_n 0, 1) := by decide +kernel
theorem dX6_scoreOf_25 : decode cX6_scoreOf 25 = .ok (.iload_n 3, 1) := by decide +kernel
theorem dX6_scoreOf_26 : decode cX6_scoreOf 26 = .ok (.invokevirtual 45, 3) := by decide +kernel
theorem dX6_scoreOf_29 : decode cX6_scoreOf 29 = .ok (.iconst 1, 1) := by decide +kernel
theorem dX6_scoreOf_30 : decode cX6_scoreOf 30 = .ok (.if_icmp .ne 15, 3) := by decide +kernel
theorem dX6_scoreOf_33 : decode cX6_scoreOf 33 = .ok (.aload_n 0, 1) := by decide +kernel
theorem dX6_scoreOf_34 : decode cX6_scoreOf 34 = .ok (.iload_n 3, 1) := by decide +kernel
theorem dX6_scoreOf_35 : decode cX6_scoreOf 35 = .ok (.invokevirtual 81, 3) := by decide +kernel
theorem dX6_scoreOf_38 : decode cX6_scoreOf 38 = .ok (.ifCond .eq 7, 3) := by decide +kernel
theorem dX6_scoreOf_41 : decode cX6_scoreOf 41 = .ok (.iconst 1, 1) := by decide +kernel
theorem dX6_scoreOf_42 : decode cX6_scoreOf 42 = .ok (.goto 4, 3) := by decide +kernel
theorem dX6_scoreOf_45 : decode cX6_scoreOf 45 = .ok (.iconst 0, 1) := by decide +kernel
theorem dX6_scoreOf_46 : decode cX6_scoreOf 46 = .ok (.iadd, 1) := by decide +kernel
theorem dX6_scoreOf_47 : decode cX6_scoreOf 47 = .ok (.istore_n 2, 1) := by decide +kernel
theorem dX6_scoreOf_48 : decode cX6_scoreOf 48 = .ok (.iinc 3 4, 3) := by decide +kernel
theorem dX6_scoreOf_51 : decode cX6_scoreOf 51 = .ok (.goto (-47), 3) := by decide +kernel
theorem dX6_scoreOf_54 : decode cX6_scoreOf 54 = .ok (.iload_n 2, 1) := by decide +kernel
theorem dX6_scoreOf_55 : decode cX6_scoreOf 55 = .ok (.ireturn, 1) := by decide +kernel
theorem dX6_score_0 : decode cX6_score 0 = .ok (.iload_n 1, 1) := by decide +kernel
theorem dX6_score_1 : decode cX6_score 1 = .ok (.invokestatic 163, 3) := by decide +kernel
theorem dX6_score_4 : decode cX6_score 4 = .ok (.ifCond .eq 11, 3) := by decide +kernel
theorem dX6_score_7 : decode cX6_score 7 = .ok (.aload_n 0, 1) := by decide +kernel
theorem dX6_score_8 : decode cX6_score 8 = .ok (.iload_n 1, 1) := by decide +kernel
theorem dX6_score_9 : decode cX6_score 9 = .ok (.invokevirtual 166, 3) := by decide +kernel
theorem dX6_score_12 : decode cX6_score 12 = .ok (.goto 4, 3) := by decide +kernel
theorem dX6_score_15 : decode cX6_score 15 = .ok (.iconst (-1), 1) := by decide +kernel
theorem dX6_score_16 : decode cX6_score 16 = .ok (.ireturn, 1) := by decide +kernel
theorem dX6_rank_0 : decode cX6_rank 0 = .ok (.aload_n 0, 1) := by decide +kernel
theorem dX6_rank_1 : decode cX6_rank 1 = .ok (.iload_n 1, 1) := by decide +kernel
theorem dX6_rank_2 : decode cX6_rank 2 = .ok (.invokevirtual 166, 3) := by decide +kernel
theorem dX6_rank_5 : decode cX6_rank 5 = .ok (.aload_n 0, 1) := by decide +kernel
theorem dX6_rank_6 : decode cX6_rank 6 = .ok (.iload_n 1, 1) := by decide +kernel
theorem dX6_rank_7 : decode cX6_rank 7 = .ok (.invokevirtual 88, 3) := by decide +kernel
theorem dX6_rank_10 : decode cX6_rank 10 = .ok (.ifCond .eq 9, 3) := by decide +kernel
theorem dX6_rank_13 : decode cX6_rank 13 = .ok (.sipush 1000, 3) := by decide +kernel
theorem dX6_rank_16 : decode cX6_rank 16 = .ok (.goto 4, 3) := by decide +kernel
theorem dX6_rank_19 : decode cX6_rank 19 = .ok (.iconst 0, 1) := by decide +kernel
theorem dX6_rank_20 : decode cX6_rank 20 = .ok (.iadd, 1) := by decide +kernel
theorem dX6_rank_21 : decode cX6_rank 21 = .ok (.ireturn, 1) := by decide +kernel
theorem dX6_twelfthsOf_0 : decode cX6_twelfthsOf 0 = .ok (.iconst 0, 1) := by decide +kernel
theorem dX6_twelfthsOf_1 : decode cX6_twelfthsOf 1 = .ok (.istore_n 2, 1) := by decide +kernel
theorem dX6_twelfthsOf_2 : decode cX6_twelfthsOf 2 = .ok (.iconst 0, 1) := by decide +kernel
theorem dX6_twelfthsOf_3 : decode cX6_twelfthsOf 3 = .ok (.istore_n 3, 1) := by decide +kernel
theorem dX6_twelfthsOf_4 : decode cX6_twelfthsOf 4 = .ok (.iconst 0, 1) := by decide +kernel
theorem dX6_twelfthsOf_5 : decode cX6_twelfthsOf 5 = .ok (.istore 4, 2) := by decide +kernel
theorem dX6_twelfthsOf_7 : decode cX6_twelfthsOf 7 = .ok (.iload 4, 2) := by decide +kernel
theorem dX6_twelfthsOf_9 : decode cX6_twelfthsOf 9 = .ok (.iconst 4, 1) := by decide +kernel
theorem dX6_twelfthsOf_10 : decode cX6_twelfthsOf 10 = .ok (.if_icmp .ge 53, 3) := by decide +kernel
theorem dX6_twelfthsOf_13 : decode cX6_twelfthsOf 13 = .ok (.iload_n 2, 1) := by decide +kernel
theorem dX6_twelfthsOf_14 : decode cX6_twelfthsOf 14 = .ok (.aload_n 0, 1) := by decide +kernel
theorem dX6_twelfthsOf_15 : decode cX6_twelfthsOf 15 = .ok (.iload 4, 2) := by decide +kernel
theorem dX6_twelfthsOf_17 : decode cX6_twelfthsOf 17 = .ok (.invokevirtual 169, 3) := by decide +kernel
theorem dX6_twelfthsOf_20 : decode cX6_twelfthsOf 20 = .ok (.aload_n 0, 1) := by decide +kernel
theorem dX6_twelfthsOf_21 : decode cX6_twelfthsOf 21 = .ok (.iload_n 1, 1) := by decide +kernel
theorem dX6_twelfthsOf_22 : decode cX6_twelfthsOf 22 = .ok (.invokevirtual 169, 3) := by decide +kernel
theorem dX6_twelfthsOf_25 : decode cX6_twelfthsOf 25 = .ok (.if_icmp .le 7, 3) := by decide +kernel
theorem dX6_twelfthsOf_28 : decode cX6_twelfthsOf 28 = .ok (.iconst 1, 1) := by decide +kernel
theorem dX6_twelfthsOf_29 : decode cX6_twelfthsOf 29 = .ok (.goto 4, 3) := by decide +kernel
theorem dX6_twelfthsOf_32 : decode cX6_twelfthsOf 32 = .ok (.iconst 0, 1) := by decide +kernel
theorem dX6_twelfthsOf_33 : decode cX6_twelfthsOf 33 = .ok (.iadd, 1) := by decide +kernel
theorem dX6_twelfthsOf_34 : decode cX6_twelfthsOf 34 = .ok (.istore_n 2, 1) := by decide +kernel
theorem dX6_twelfthsOf_35 : decode cX6_twelfthsOf 35 = .ok (.iload_n 3, 1) := by decide +kernel
theorem dX6_twelfthsOf_36 : decode cX6_twelfthsOf 36 = .ok (.aload_n 0, 1) := by decide +kernel
theorem dX6_twelfthsOf_37 : decode cX6_twelfthsOf 37 = .ok (.iload 4, 2) := by decide +kernel
theorem dX6_twelfthsOf_39 : decode cX6_twelfthsOf 39 = .ok (.invokevirtual 169, 3) := by decide +kernel
theorem dX6_twelfthsOf_42 : decode cX6_twelfthsOf 42 = .ok (.aload_n 0, 1) := by decide +kernel
theorem dX6_twelfthsOf_43 : decode cX6_twelfthsOf 43 = .ok (.iload_n 1, 1) := by decide +kernel
theorem dX6_twelfthsOf_44 : decode cX6_twelfthsOf 44 = .ok (.invokevirtual 169, 3) := by decide +kernel
theorem dX6_twelfthsOf_47 : decode cX6_twelfthsOf 47 = .ok (.if_icmp .ne 7, 3) := by decide +kernel
theorem dX6_twelfthsOf_50 : decode cX6_twelfthsOf 50 = .ok (.iconst 1, 1) := by decide +kernel
theorem dX6_twelfthsOf_51 : decode cX6_twelfthsOf 51 = .ok (.goto 4, 3) := by decide +kernel
theorem dX6_twelfthsOf_54 : decode cX6_twelfthsOf 54 = .ok (.iconst 0, 1) := by decide +kernel
theorem dX6_twelfthsOf_55 : decode cX6_twelfthsOf 55 = .ok (.iadd, 1) := by decide +kernel
theorem dX6_twelfthsOf_56 : decode cX6_twelfthsOf 56 = .ok (.istore_n 3, 1) := by decide +kernel
theorem dX6_twelfthsOf_57 : decode cX6_twelfthsOf 57 = .ok (.iinc 4 1, 3) := by decide +kernel
theorem dX6_twelfthsOf_60 : decode cX6_twelfthsOf 60 = .ok (.goto (-53), 3) := by decide +kernel
theorem dX6_twelfthsOf_63 : decode cX6_twelfthsOf 63 = .ok (.iconst 0, 1) := by decide +kernel
theorem dX6_twelfthsOf_64 : decode cX6_twelfthsOf 64 = .ok (.istore 4, 2) := by decide +kernel
theorem dX6_twelfthsOf_66 : decode cX6_twelfthsOf 66 = .ok (.iload_n 2, 1) := by decide +kernel
theorem dX6_twelfthsOf_67 : decode cX6_twelfthsOf 67 = .ok (.istore 5, 2) := by decide +kernel
theorem dX6_twelfthsOf_69 : decode cX6_twelfthsOf 69 = .ok (.iload 5, 2) := by decide +kernel
theorem dX6_twelfthsOf_71 : decode cX6_twelfthsOf 71 = .ok (.iload_n 2, 1) := by decide +kernel
theorem dX6_twelfthsOf_72 : decode cX6_twelfthsOf 72 = .ok (.iload_n 3, 1) := by decide +kernel
theorem dX6_twelfthsOf_73 : decode cX6_twelfthsOf 73 = .ok (.iadd, 1) := by decide +kernel
theorem dX6_twelfthsOf_74 : decode cX6_twelfthsOf 74 = .ok (.if_icmp .ge 47, 3) := by decide +kernel
theorem dX6_twelfthsOf_77 : decode cX6_twelfthsOf 77 = .ok (.iload 4, 2) := by decide +kernel
theorem dX6_twelfthsOf_79 : decode cX6_twelfthsOf 79 = .ok (.iload 5, 2) := by decide +kernel
theorem dX6_twelfthsOf_81 : decode cX6_twelfthsOf 81 = .ok (.ifCond .ne 8, 3) := by decide +kernel
theorem dX6_twelfthsOf_84 : decode cX6_twelfthsOf 84 = .ok (.bipush 48, 2) := by decide +kernel
theorem dX6_twelfthsOf_86 : decode cX6_twelfthsOf 86 = .ok (.goto 26, 3) := by decide +kernel
theorem dX6_twelfthsOf_89 : decode cX6_twelfthsOf 89 = .ok (.iload 5, 2) := by decide +kernel
theorem dX6_twelfthsOf_91 : decode cX6_twelfthsOf 91 = .ok (.iconst 1, 1) := by decide +kernel
theorem dX6_twelfthsOf_92 : decode cX6_twelfthsOf 92 = .ok (.if_icmp .ne 8, 3) := by decide +kernel
theorem dX6_twelfthsOf_95 : decode cX6_twelfthsOf 95 = .ok (.bipush 24, 2) := by decide +kernel
theorem dX6_twelfthsOf_97 : decode cX6_twelfthsOf 97 = .ok (.goto 15, 3) := by decide +kernel
theorem dX6_twelfthsOf_100 : decode cX6_twelfthsOf 100 = .ok (.iload 5, 2) := by decide +kernel
theorem dX6_twelfthsOf_102 : decode cX6_twelfthsOf 102 = .ok (.iconst 2, 1) := by decide +kernel
theorem dX6_twelfthsOf_103 : decode cX6_twelfthsOf 103 = .ok (.if_icmp .ne 8, 3) := by decide +kernel
theorem dX6_twelfthsOf_106 : decode cX6_twelfthsOf 106 = .ok (.bipush 12, 2) := by decide +kernel
theorem dX6_twelfthsOf_108 : decode cX6_twelfthsOf 108 = .ok (.goto 4, 3) := by decide +kernel
theorem dX6_twelfthsOf_111 : decode cX6_twelfthsOf 111 = .ok (.iconst 0, 1) := by decide +kernel
theorem dX6_twelfthsOf_112 : decode cX6_twelfthsOf 112 = .ok (.iadd, 1) := by decide +kernel
theorem dX6_twelfthsOf_113 : decode cX6_twelfthsOf 113 = .ok (.istore 4, 2) := by decide +kernel
theorem dX6_twelfthsOf_115 : decode cX6_twelfthsOf 115 = .ok (.iinc 5 1, 3) := by decide +kernel
theorem dX6_twelfthsOf_118 : decode cX6_twelfthsOf 118 = .ok (.goto (-49), 3) := by decide +kernel
theorem dX6_twelfthsOf_121 : decode cX6_twelfthsOf 121 = .ok (.iload 4, 2) := by decide +kernel
theorem dX6_twelfthsOf_123 : decode cX6_twelfthsOf 123 = .ok (.iload_n 3, 1) := by decide +kernel
theorem dX6_twelfthsOf_124 : decode cX6_twelfthsOf 124 = .ok (.idiv, 1) := by decide +kernel
theorem dX6_twelfthsOf_125 : decode cX6_twelfthsOf 125 = .ok (.ireturn, 1) := by decide +kernel
theorem dX6_twelfths_0 : decode cX6_twelfths 0 = .ok (.iload_n 1, 1) := by decide +kernel
theorem dX6_twelfths_1 : decode cX6_twelfths 1 = .ok (.invokestatic 163, 3) := by decide +kernel
theorem dX6_twelfths_4 : decode cX6_twelfths 4 = .ok (.ifCond .eq 11, 3) := by decide +kernel
theorem dX6_twelfths_7 : decode cX6_twelfths 7 = .ok (.aload_n 0, 1) := by decide +kernel
theorem dX6_twelfths_8 : decode cX6_twelfths 8 = .ok (.iload_n 1, 1) := by decide +kernel
theorem dX6_twelfths_9 : decode cX6_twelfths 9 = .ok (.invokevirtual 172, 3) := by decide +kernel
theorem dX6_twelfths_12 : decode cX6_twelfths 12 = .ok (.goto 4, 3) := by decide +kernel
theorem dX6_twelfths_15 : decode cX6_twelfths 15 = .ok (.iconst (-1), 1) := by decide +kernel
theorem dX6_twelfths_16 : decode cX6_twelfths 16 = .ok (.ireturn, 1) := by decide +kernel
theorem dX6_points_0 : decode cX6_points 0 = .ok (.iload_n 1, 1) := by decide +kernel
theorem dX6_points_1 : decode cX6_points 1 = .ok (.iconst 0, 1) := by decide +kernel
theorem dX6_points_2 : decode cX6_points 2 = .ok (.iconst 1, 1) := by decide +kernel
theorem dX6_points_3 : decode cX6_points 3 = .ok (.invokestatic 109, 3) := by decide +kernel
theorem dX6_points_6 : decode cX6_points 6 = .ok (.ifCond .ne 5, 3) := by decide +kernel
theorem dX6_points_9 : decode cX6_points 9 = .ok (.iconst (-1), 1) := by decide +kernel
theorem dX6_points_10 : decode cX6_points 10 = .ok (.ireturn, 1) := by decide +kernel
theorem dX6_points_11 : decode cX6_points 11 = .ok (.aload_n 0, 1) := by decide +kernel
theorem dX6_points_12 : decode cX6_points 12 = .ok (.iload_n 1, 1) := by decide +kernel
theorem dX6_points_13 : decode cX6_points 13 = .ok (.invokevirtual 172, 3) := by decide +kernel
theorem dX6_points_16 : decode cX6_points 16 = .ok (.aload_n 0, 1) := by decide +kernel
theorem dX6_points_17 : decode cX6_points 17 = .ok (.iload_n 1, 1) := by decide +kernel
theorem dX6_points_18 : decode cX6_points 18 = .ok (.iconst 2, 1) := by decide +kernel
theorem dX6_points_19 : decode cX6_points 19 = .ok (.iadd, 1) := by decide +kernel
theorem dX6_points_20 : decode cX6_points 20 = .ok (.invokevirtual 172, 3) := by decide +kernel
theorem dX6_points_23 : decode cX6_points 23 = .ok (.iadd, 1) := by decide +kernel
theorem dX6_points_24 : decode cX6_points 24 = .ok (.istore_n 2, 1) := by decide +kernel
theorem dX6_points_25 : decode cX6_points 25 = .ok (.iconst 0, 1) := by decide +kernel
theorem dX6_points_26 : decode cX6_points 26 = .ok (.istore_n 3, 1) := by decide +kernel
theorem dX6_points_27 : decode cX6_points 27 = .ok (.iload_n 3, 1) := by decide +kernel
theorem dX6_points_28 : decode cX6_points 28 = .ok (.iconst 4, 1) := by decide +kernel
theorem dX6_points_29 : decode cX6_points 29 = .ok (.if_icmp .ge 38, 3) := by decide +kernel
theorem dX6_points_32 : decode cX6_points 32 = .ok (.iload_n 2, 1) := by decide +kernel
theorem dX6_points_33 : decode cX6_points 33 = .ok (.aload_n 0, 1) := by decide +kernel
theorem dX6_points_34 : decode cX6_points 34 = .ok (.iload_n 3, 1) := by decide +kernel
theorem dX6_points_35 : decode cX6_points 35 = .ok (.invokevirtual 88, 3) := by decide +kernel
theorem dX6_points_38 : decode cX6_points 38 = .ok (.ifCond .ne 7, 3) := by decide +kernel
theorem dX6_points_41 : decode cX6_points 41 = .ok (.iconst 0, 1) := by decide +kernel
theorem dX6_points_42 : decode cX6_points 42 = .ok (.goto 17, 3) := by decide +kernel
theorem dX6_points_45 : decode cX6_points 45 = .ok (.iload_n 3, 1) := by decide +kernel
theorem dX6_points_46 : decode cX6_points 46 = .ok (.iconst 2, 1) := by decide +kernel
theorem dX6_points_47 : decode cX6_points 47 = .ok (.irem, 1) := by decide +kernel
theorem dX6_points_48 : decode cX6_points 48 = .ok (.iload_n 1, 1) := by decide +kernel
theorem dX6_points_49 : decode cX6_points 49 = .ok (.if_icmp .ne 8, 3) := by decide +kernel
theorem dX6_points_52 : decode cX6_points 52 = .ok (.bipush 12, 2) := by decide +kernel
theorem dX6_points_54 : decode cX6_points 54 = .ok (.goto 5, 3) := by decide +kernel
theorem dX6_points_57 : decode cX6_points 57 = .ok (.bipush (-12), 2) := by decide +kernel
theorem dX6_points_59 : decode cX6_points 59 = .ok (.iadd, 1) := by decide +kernel
theorem dX6_points_60 : decode cX6_points 60 = .ok (.istore_n 2, 1) := by decide +kernel
theorem dX6_points_61 : decode cX6_points 61 = .ok (.iinc 3 1, 3) := by decide +kernel
theorem dX6_points_64 : decode cX6_points 64 = .ok (.goto (-37), 3) := by decide +kernel
theorem dX6_points_67 : decode cX6_points 67 = .ok (.iload_n 2, 1) := by decide +kernel
theorem dX6_points_68 : decode cX6_points 68 = .ok (.ireturn, 1) := by decide +kernel
theorem dX6_chanceOf_0 : decode cX6_chanceOf 0 = .ok (.iload_n 2, 1) := by decide +kernel
theorem dX6_chanceOf_1 : decode cX6_chanceOf 1 = .ok (.ifCond .ge 8, 3) := by decide +kernel
theorem dX6_chanceOf_4 : decode cX6_chanceOf 4 = .ok (.bipush 20, 2) := by decide +kernel
theorem dX6_chanceOf_6 : decode cX6_chanceOf 6 = .ok (.goto 8, 3) := by decide +kernel
theorem dX6_chanceOf_9 : decode cX6_chanceOf 9 = .ok (.aload_n 0, 1) := by decide +kernel
theorem dX6_chanceOf_10 : decode cX6_chanceOf 10 = .ok (.iload_n 2, 1) := by decide +kernel
theorem dX6_chanceOf_11 : decode cX6_chanceOf 11 = .ok (.invokevirtual 58, 3) := by decide +kernel
theorem dX6_chanceOf_14 : decode cX6_chanceOf 14 = .ok (.istore_n 3, 1) := by decide +kernel
theorem dX6_chanceOf_15 : decode cX6_chanceOf 15 = .ok (.iload_n 2, 1) := by decide +kernel
theorem dX6_chanceOf_16 : decode cX6_chanceOf 16 = .ok (.ifCond .ge 8, 3) := by decide +kernel
theorem dX6_chanceOf_19 : decode cX6_chanceOf 19 = .ok (.bipush 20, 2) := by decide +kernel
theorem dX6_chanceOf_21 : decode cX6_chanceOf 21 = .ok (.goto 8, 3) := by decide +kernel
theorem dX6_chanceOf_24 : decode cX6_chanceOf 24 = .ok (.aload_n 0, 1) := by decide +kernel
theorem dX6_chanceOf_25 : decode cX6_chanceOf 25 = .ok (.iload_n 2, 1) := by decide +kernel
theorem dX6_chanceOf_26 : decode cX6_chanceOf 26 = .ok (.invokevirtual 65, 3) := by decide +kernel
theorem dX6_chanceOf_29 : decode cX6_chanceOf 29 = .ok (.istore 4, 2) := by decide +kernel
theorem dX6_chanceOf_31 : decode cX6_chanceOf 31 = .ok (.aload_n 0, 1) := by decide +kernel
theorem dX6_chanceOf_32 : decode cX6_chanceOf 32 = .ok (.iload_n 1, 1) := by decide +kernel
theorem dX6_chanceOf_33 : decode cX6_chanceOf 33 = .ok (.invokevirtual 58, 3) := by decide +kernel
theorem dX6_chanceOf_36 : decode cX6_chanceOf 36 = .ok (.aload_n 0, 1) := by decide +kernel
theorem dX6_chanceOf_37 : decode cX6_chanceOf 37 = .ok (.iload_n 1, 1) := by decide +kernel
theorem dX6_chanceOf_38 : decode cX6_chanceOf 38 = .ok (.invokevirtual 65, 3) := by decide +kernel
theorem dX6_chanceOf_41 : decode cX6_chanceOf 41 = .ok (.iload_n 3, 1) := by decide +kernel
theorem dX6_chanceOf_42 : decode cX6_chanceOf 42 = .ok (.iload 4, 2) := by decide +kernel
theorem dX6_chanceOf_44 : decode cX6_chanceOf 44 = .ok (.invokestatic 146, 3) := by decide +kernel
theorem dX6_chanceOf_47 : decode cX6_chanceOf 47 = .ok (.istore 5, 2) := by decide +kernel
theorem dX6_chanceOf_49 : decode cX6_chanceOf 49 = .ok (.iload_n 2, 1) := by decide +kernel
theorem dX6_chanceOf_50 : decode cX6_chanceOf 50 = .ok (.ifCond .lt 21, 3) := by decide +kernel
theorem dX6_chanceOf_53 : decode cX6_chanceOf 53 = .ok (.iload_n 1, 1) := by decide +kernel
theorem dX6_chanceOf_54 : decode cX6_chanceOf 54 = .ok (.invokestatic 68, 3) := by decide +kernel
theorem dX6_chanceOf_57 : decode cX6_chanceOf 57 = .ok (.iconst 1, 1) := by decide +kernel
theorem dX6_chanceOf_58 : decode cX6_chanceOf 58 = .ok (.if_icmp .ne 13, 3) := by decide +kernel
theorem dX6_chanceOf_61 : decode cX6_chanceOf 61 = .ok (.bipush 36, 2) := by decide +kernel
theorem dX6_chanceOf_63 : decode cX6_chanceOf 63 = .ok (.iconst 2, 1) := by decide +kernel
theorem dX6_chanceOf_64 : decode cX6_chanceOf 64 = .ok (.iload 5, 2) := by decide +kernel
theorem dX6_chanceOf_66 : decode cX6_chanceOf 66 = .ok (.imul, 1) := by decide +kernel
theorem dX6_chanceOf_67 : decode cX6_chanceOf 67 = .ok (.isub, 1) := by decide +kernel
theorem dX6_chanceOf_68 : decode cX6_chanceOf 68 = .ok (.goto 8, 3) := by decide +kernel
theorem dX6_chanceOf_71 : decode cX6_chanceOf 71 = .ok (.bipush 36, 2) := by decide +kernel
theorem dX6_chanceOf_73 : decode cX6_chanceOf 73 = .ok (.iload 5, 2) := by decide +kernel
theorem dX6_chanceOf_75 : decode cX6_chanceOf 75 = .ok (.isub, 1) := by decide +kernel
theorem dX6_chanceOf_76 : decode cX6_chanceOf 76 = .ok (.istore 6, 2) := by decide +kernel
theorem dX6_chanceOf_78 : decode cX6_chanceOf 78 = .ok (.iload 6, 2) := by decide +kernel
theorem dX6_chanceOf_80 : decode cX6_chanceOf 80 = .ok (.iconst 1, 1) := by decide +kernel
theorem dX6_chanceOf_81 : decode cX6_chanceOf 81 = .ok (.if_icmp .ge 7, 3) := by decide +kernel
theorem dX6_chanceOf_84 : decode cX6_chanceOf 84 = .ok (.iconst 1, 1) := by decide +kernel
theorem dX6_chanceOf_85 : decode cX6_chanceOf 85 = .ok (.goto 5, 3) := by decide +kernel
theorem dX6_chanceOf_88 : decode cX6_chanceOf 88 = .ok (.iload 6, 2) := by decide +kernel
theorem dX6_chanceOf_90 : decode cX6_chanceOf 90 = .ok (.ireturn, 1) := by decide +kernel
theorem dX6_chance_0 : decode cX6_chance 0 = .ok (.iload_n 1, 1) := by decide +kernel
theorem dX6_chance_1 : decode cX6_chance 1 = .ok (.invokestatic 117, 3) := by decide +kernel
theorem dX6_chance_4 : decode cX6_chance 4 = .ok (.ifCond .eq 13, 3) := by decide +kernel
theorem dX6_chance_7 : decode cX6_chance 7 = .ok (.iload_n 2, 1) := by decide +kernel
theorem dX6_chance_8 : decode cX6_chance 8 = .ok (.iconst (-1), 1) := by decide +kernel
theorem dX6_chance_9 : decode cX6_chance 9 = .ok (.bipush 15, 2) := by decide +kernel
theorem dX6_chance_11 : decode cX6_chance 11 = .ok (.invokestatic 109, 3) := by decide +kernel
theorem dX6_chance_14 : decode cX6_chance 14 = .ok (.ifCond .ne 5, 3) := by decide +kernel
theorem dX6_chance_17 : decode cX6_chance 17 = .ok (.iconst (-1), 1) := by decide +kernel
theorem dX6_chance_18 : decode cX6_chance 18 = .ok (.ireturn, 1) := by decide +kernel
theorem dX6_chance_19 : decode cX6_chance 19 = .ok (.aload_n 0, 1) := by decide +kernel
theorem dX6_chance_20 : decode cX6_chance 20 = .ok (.iload_n 1, 1) := by decide +kernel
theorem dX6_chance_21 : decode cX6_chance 21 = .ok (.invokevirtual 45, 3) := by decide +kernel
theorem dX6_chance_24 : decode cX6_chance 24 = .ok (.iconst 2, 1) := by decide +kernel
theorem dX6_chance_25 : decode cX6_chance 25 = .ok (.if_icmp .eq 21, 3) := by decide +kernel
theorem dX6_chance_28 : decode cX6_chance 28 = .ok (.iload_n 2, 1) := by decide +kernel
theorem dX6_chance_29 : decode cX6_chance 29 = .ok (.ifCond .lt 20, 3) := by decide +kernel
theorem dX6_chance_32 : decode cX6_chance 32 = .ok (.aload_n 0, 1) := by decide +kernel
theorem dX6_chance_33 : decode cX6_chance 33 = .ok (.iload_n 2, 1) := by decide +kernel
theorem dX6_chance_34 : decode cX6_chance 34 = .ok (.invokevirtual 45, 3) := by decide +kernel
theorem dX6_chance_37 : decode cX6_chance 37 = .ok (.iconst 1, 1) := by decide +kernel
theorem dX6_chance_38 : decode cX6_chance 38 = .ok (.if_icmp .ne 8, 3) := by decide +kernel
theorem dX6_chance_41 : decode cX6_chance 41 = .ok (.iload_n 2, 1) := by decide +kernel
theorem dX6_chance_42 : decode cX6_chance 42 = .ok (.iload_n 1, 1) := by decide +kernel
theorem dX6_chance_43 : decode cX6_chance 43 = .ok (.if_icmp .ne 6, 3) := by decide +kernel
theorem dX6_chance_46 : decode cX6_chance 46 = .ok (.bipush (-2), 2) := by decide +kernel
theorem dX6_chance_48 : decode cX6_chance 48 = .ok (.ireturn, 1) := by decide +kernel
theorem dX6_chance_49 : decode cX6_chance 49 = .ok (.aload_n 0, 1) := by decide +kernel
theorem dX6_chance_50 : decode cX6_chance 50 = .ok (.iload_n 1, 1) := by decide +kernel
theorem dX6_chance_51 : decode cX6_chance 51 = .ok (.iload_n 2, 1) := by decide +kernel
theorem dX6_chance_52 : decode cX6_chance 52 = .ok (.invokevirtual 175, 3) := by decide +kernel
theorem dX6_chance_55 : decode cX6_chance 55 = .ok (.ireturn, 1) := by decide +kernel
theorem dX6_gainOf_0 : decode cX6_gainOf 0 = .ok (.iload_n 2, 1) := by decide +kernel
theorem dX6_gainOf_1 : decode cX6_gainOf 1 = .ok (.ifCond .ge 17, 3) := by decide +kernel
theorem dX6_gainOf_4 : decode cX6_gainOf 4 = .ok (.aload_n 0, 1) := by decide +kernel
theorem dX6_gainOf_5 : decode cX6_gainOf 5 = .ok (.iload_n 1, 1) := by decide +kernel
theorem dX6_gainOf_6 : decode cX6_gainOf 6 = .ok (.invokevirtual 45, 3) := by decide +kernel
theorem dX6_gainOf_9 : decode cX6_gainOf 9 = .ok (.ifCond .ne 7, 3) := by decide +kernel
theorem dX6_gainOf_12 : decode cX6_gainOf 12 = .ok (.iconst 3, 1) := by decide +kernel
theorem dX6_gainOf_13 : decode cX6_gainOf 13 = .ok (.goto 4, 3) := by decide +kernel
theorem dX6_gainOf_16 : decode cX6_gainOf 16 = .ok (.iconst 2, 1) := by decide +kernel
theorem dX6_gainOf_17 : decode cX6_gainOf 17 = .ok (.ireturn, 1) := by decide +kernel
theorem dX6_gainOf_18 : decode cX6_gainOf 18 = .ok (.aload_n 0, 1) := by decide +kernel
theorem dX6_gainOf_19 : decode cX6_gainOf 19 = .ok (.iload_n 2, 1) := by decide +kernel
theorem dX6_gainOf_20 : decode cX6_gainOf 20 = .ok (.invokevirtual 58, 3) := by decide +kernel
theorem dX6_gainOf_23 : decode cX6_gainOf 23 = .ok (.aload_n 0, 1) := by decide +kernel
theorem dX6_gainOf_24 : decode cX6_gainOf 24 = .ok (.iload_n 2, 1) := by decide +kernel
theorem dX6_gainOf_25 : decode cX6_gainOf 25 = .ok (.invokevirtual 65, 3) := by decide +kernel
theorem dX6_gainOf_28 : decode cX6_gainOf 28 = .ok (.bipush 20, 2) := by decide +kernel
theorem dX6_gainOf_30 : decode cX6_gainOf 30 = .ok (.bipush 20, 2) := by decide +kernel
theorem dX6_gainOf_32 : decode cX6_gainOf 32 = .ok (.invokestatic 146, 3) := by decide +kernel
theorem dX6_gainOf_35 : decode cX6_gainOf 35 = .ok (.bipush 6, 2) := by decide +kernel
theorem dX6_gainOf_37 : decode cX6_gainOf 37 = .ok (.if_icmp .gt 7, 3) := by decide +kernel
theorem dX6_gainOf_40 : decode cX6_gainOf 40 = .ok (.iconst 2, 1) := by decide +kernel
theorem dX6_gainOf_41 : decode cX6_gainOf 41 = .ok (.goto 4, 3) := by decide +kernel
theorem dX6_gainOf_44 : decode cX6_gainOf 44 = .ok (.iconst 1, 1) := by decide +kernel
theorem dX6_gainOf_45 : decode cX6_gainOf 45 = .ok (.istore_n 3, 1) := by decide +kernel
theorem dX6_gainOf_46 : decode cX6_gainOf 46 = .ok (.iconst 0, 1) := by decide +kernel
theorem dX6_gainOf_47 : decode cX6_gainOf 47 = .ok (.istore 4, 2) := by decide +kernel
theorem dX6_gainOf_49 : decode cX6_gainOf 49 = .ok (.iload 4, 2) := by decide +kernel
theorem dX6_gainOf_51 : decode cX6_gainOf 51 = .ok (.bipush 16, 2) := by decide +kernel
theorem dX6_gainOf_53 : decode cX6_gainOf 53 = .ok (.if_icmp .ge 37, 3) := by decide +kernel
theorem dX6_gainOf_56 : decode cX6_gainOf 56 = .ok (.iload_n 3, 1) := by decide +kernel
theorem dX6_gainOf_57 : decode cX6_gainOf 57 = .ok (.aload_n 0, 1) := by decide +kernel
theorem dX6_gainOf_58 : decode cX6_gainOf 58 = .ok (.iload_n 2, 1) := by decide +kernel
theorem dX6_gainOf_59 : decode cX6_gainOf 59 = .ok (.iload 4, 2) := by decide +kernel
theorem dX6_gainOf_61 : decode cX6_gainOf 61 = .ok (.invokevirtual 71, 3) := by decide +kernel
theorem dX6_gainOf_64 : decode cX6_gainOf 64 = .ok (.ifCond .eq 17, 3) := by decide +kernel
theorem dX6_gainOf_67 : decode cX6_gainOf 67 = .ok (.iload 4, 2) := by decide +kernel
theorem dX6_gainOf_69 : decode cX6_gainOf 69 = .ok (.iconst 2, 1) := by decide +kernel
theorem dX6_gainOf_70 : decode cX6_gainOf 70 = .ok (.irem, 1) := by decide +kernel
theorem dX6_gainOf_71 : decode cX6_gainOf 71 = .ok (.iload_n 1, 1) := by decide +kernel
theorem dX6_gainOf_72 : decode cX6_gainOf 72 = .ok (.iconst 2, 1) := by decide +kernel
theorem dX6_gainOf_73 : decode cX6_gainOf 73 = .ok (.irem, 1) := by decide +kernel
theorem dX6_gainOf_74 : decode cX6_gainOf 74 = .ok (.if_icmp .ne 7, 3) := by decide +kernel
theorem dX6_gainOf_77 : decode cX6_gainOf 77 = .ok (.iconst 1, 1) := by decide +kernel
theorem dX6_gainOf_78 : decode cX6_gainOf 78 = .ok (.goto 4, 3) := by decide +kernel
theorem dX6_gainOf_81 : decode cX6_gainOf 81 = .ok (.iconst 0, 1) := by decide +kernel
theorem dX6_gainOf_82 : decode cX6_gainOf 82 = .ok (.iadd, 1) := by decide +kernel
theorem dX6_gainOf_83 : decode cX6_gainOf 83 = .ok (.istore_n 3, 1) := by decide +kernel
theorem dX6_gainOf_84 : decode cX6_gainOf 84 = .ok (.iinc 4 1, 3) := by decide +kernel
theorem dX6_gainOf_87 : decode cX6_gainOf 87 = .ok (.goto (-38), 3) := by decide +kernel
theorem dX6_gainOf_90 : decode cX6_gainOf 90 = .ok (.iload_n 3, 1) := by decide +kernel
theorem dX6_gainOf_91 : decode cX6_gainOf 91 = .ok (.ireturn, 1) := by decide +kernel
theorem dX6_layBest_0 : decode cX6_layBest 0 = .ok (.aload_n 0, 1) := by decide +kernel
theorem dX6_layBest_1 : decode cX6_layBest 1 = .ok (.bipush (-4), 2) := by decide +kernel
theorem dX6_layBest_3 : decode cX6_layBest 3 = .ok (.putfield 179, 3) := by decide +kernel
theorem dX6_layBest_6 : decode cX6_layBest 6 = .ok (.aload_n 0, 1) := by decide +kernel
theorem dX6_layBest_7 : decode cX6_layBest 7 = .ok (.iconst 0, 1) := by decide +kernel
theorem dX6_layBest_8 : decode cX6_layBest 8 = .ok (.putfield 183, 3) := by decide +kernel
theorem dX6_layBest_11 : decode cX6_layBest 11 = .ok (.iload_n 1, 1) := by decide +kernel
theorem dX6_layBest_12 : decode cX6_layBest 12 = .ok (.istore_n 2, 1) := by decide +kernel
theorem dX6_layBest_13 : decode cX6_layBest 13 = .ok (.iload_n 2, 1) := by decide +kernel
theorem dX6_layBest_14 : decode cX6_layBest 14 = .ok (.bipush 16, 2) := by decide +kernel
theorem dX6_layBest_16 : decode cX6_layBest 16 = .ok (.if_icmp .ge 120, 3) := by decide +kernel
theorem dX6_layBest_19 : decode cX6_layBest 19 = .ok (.iconst (-1), 1) := by decide +kernel
theorem dX6_layBest_20 : decode cX6_layBest 20 = .ok (.istore_n 3, 1) := by decide +kernel
theorem dX6_layBest_21 : decode cX6_layBest 21 = .ok (.iload_n 3, 1) := by decide +kernel
theorem dX6_layBest_22 : decode cX6_layBest 22 = .ok (.bipush 16, 2) := by decide +kernel
theorem dX6_layBest_24 : decode cX6_layBest 24 = .ok (.if_icmp .ge 106, 3) := by decide +kernel
theorem dX6_layBest_27 : decode cX6_layBest 27 = .ok (.aload_n 0, 1) := by decide +kernel
theorem dX6_layBest_28 : decode cX6_layBest 28 = .ok (.iload_n 2, 1) := by decide +kernel
theorem dX6_layBest_29 : decode cX6_layBest 29 = .ok (.invokevirtual 81, 3) := by decide +kernel
theorem dX6_layBest_32 : decode cX6_layBest 32 = .ok (.ifCond .eq 98, 3) := by decide +kernel
theorem dX6_layBest_35 : decode cX6_layBest 35 = .ok (.iload_n 3, 1) := by decide +kernel
theorem dX6_layBest_36 : decode cX6_layBest 36 = .ok (.ifCond .lt 29, 3) := by decide +kernel
theorem dX6_layBest_39 : decode cX6_layBest 39 = .ok (.iload_n 3, 1) := by decide +kernel
theorem dX6_layBest_40 : decode cX6_layBest 40 = .ok (.iconst 2, 1) := by decide +kernel
theorem dX6_layBest_41 : decode cX6_layBest 41 = .ok (.irem, 1) := by decide +kernel
theorem dX6_layBest_42 : decode cX6_layBest 42 = .ok (.iload_n 2, 1) := by decide +kernel
theorem dX6_layBest_43 : decode cX6_layBest 43 = .ok (.iconst 2, 1) := by decide +kernel
theorem dX6_layBest_44 : decode cX6_layBest 44 = .ok (.irem, 1) := by decide +kernel
theorem dX6_layBest_45 : decode cX6_layBest 45 = .ok (.if_icmp .eq 24, 3) := by decide +kernel
theorem dX6_layBest_48 : decode cX6_layBest 48 = .ok (.aload_n 0, 1) := by decide +kernel
theorem dX6_layBest_49 : decode cX6_layBest 49 = .ok (.iload_n 3, 1) := by decide +kernel
theorem dX6_layBest_50 : decode cX6_layBest 50 = .ok (.invokevirtual 45, 3) := by decide +kernel
theorem dX6_layBest_53 : decode cX6_layBest 53 = .ok (.iconst 1, 1) := by decide +kernel
theorem dX6_layBest_54 : decode cX6_layBest 54 = .ok (.if_icmp .ne 15, 3) := by decide +kernel
theorem dX6_layBest_57 : decode cX6_layBest 57 = .ok (.aload_n 0, 1) := by decide +kernel
theorem dX6_layBest_58 : decode cX6_layBest 58 = .ok (.iload_n 3, 1) := by decide +kernel
theorem dX6_layBest_59 : decode cX6_layBest 59 = .ok (.invokevirtual 81, 3) := by decide +kernel
theorem dX6_layBest_62 : decode cX6_layBest 62 = .ok (.ifCond .eq 7, 3) := by decide +kernel
theorem dX6_layBest_65 : decode cX6_layBest 65 = .ok (.iconst 1, 1) := by decide +kernel
theorem dX6_layBest_66 : decode cX6_layBest 66 = .ok (.goto 4, 3) := by decide +kernel
theorem dX6_layBest_69 : decode cX6_layBest 69 = .ok (.iconst 0, 1) := by decide +kernel
theorem dX6_layBest_70 : decode cX6_layBest 70 = .ok (.istore 4, 2) := by decide +kernel
theorem dX6_layBest_72 : decode cX6_layBest 72 = .ok (.iload 4, 2) := by decide +kernel
theorem dX6_layBest_74 : decode cX6_layBest 74 = .ok (.ifCond .eq 50, 3) := by decide +kernel
theorem dX6_layBest_77 : decode cX6_layBest 77 = .ok (.aload_n 0, 1) := by decide +kernel
theorem dX6_layBest_78 : decode cX6_layBest 78 = .ok (.iload_n 2, 1) := by decide +kernel
theorem dX6_layBest_79 : decode cX6_layBest 79 = .ok (.iload_n 3, 1) := by decide +kernel
theorem dX6_layBest_80 : decode cX6_layBest 80 = .ok (.invokevirtual 175, 3) := by decide +kernel
theorem dX6_layBest_83 : decode cX6_layBest 83 = .ok (.aload_n 0, 1) := by decide +kernel
theorem dX6_layBest_84 : decode cX6_layBest 84 = .ok (.iload_n 2, 1) := by decide +kernel
theorem dX6_layBest_85 : decode cX6_layBest 85 = .ok (.iload_n 3, 1) := by decide +kernel
theorem dX6_layBest_86 : decode cX6_layBest 86 = .ok (.invokevirtual 186, 3) := by decide +kernel
theorem dX6_layBest_89 : decode cX6_layBest 89 = .ok (.imul, 1) := by decide +kernel
theorem dX6_layBest_90 : decode cX6_layBest 90 = .ok (.aload_n 0, 1) := by decide +kernel
theorem dX6_layBest_91 : decode cX6_layBest 91 = .ok (.getfield 183, 3) := by decide +kernel
theorem dX6_layBest_94 : decode cX6_layBest 94 = .ok (.if_icmp .le 30, 3) := by decide +kernel
theorem dX6_layBest_97 : decode cX6_layBest 97 = .ok (.aload_n 0, 1) := by decide +kernel
theorem dX6_layBest_98 : decode cX6_layBest 98 = .ok (.iload_n 2, 1) := by decide +kernel
theorem dX6_layBest_99 : decode cX6_layBest 99 = .ok (.putfield 179, 3) := by decide +kernel
theorem dX6_layBest_102 : decode cX6_layBest 102 = .ok (.aload_n 0, 1) := by decide +kernel
theorem dX6_layBest_103 : decode cX6_layBest 103 = .ok (.iload_n 3, 1) := by decide +kernel
theorem dX6_layBest_104 : decode cX6_layBest 104 = .ok (.putfield 189, 3) := by decide +kernel
theorem dX6_layBest_107 : decode cX6_layBest 107 = .ok (.aload_n 0, 1) := by decide +kernel
theorem dX6_layBest_108 : decode cX6_layBest 108 = .ok (.aload_n 0, 1) := by decide +kernel
theorem dX6_layBest_109 : decode cX6_layBest 109 = .ok (.iload_n 2, 1) := by decide +kernel
theorem dX6_layBest_110 : decode cX6_layBest 110 = .ok (.iload_n 3, 1) := by decide +kernel
theorem dX6_layBest_111 : decode cX6_layBest 111 = .ok (.invokevirtual 175, 3) := by decide +kernel
theorem dX6_layBest_114 : decode cX6_layBest 114 = .ok (.aload_n 0, 1) := by decide +kernel
theorem dX6_layBest_115 : decode cX6_layBest 115 = .ok (.iload_n 2, 1) := by decide +kernel
theorem dX6_layBest_116 : decode cX6_layBest 116 = .ok (.iload_n 3, 1) := by decide +kernel
theorem dX6_layBest_117 : decode cX6_layBest 117 = .ok (.invokevirtual 186, 3) := by decide +kernel
theorem dX6_layBest_120 : decode cX6_layBest 120 = .ok (.imul, 1) := by decide +kernel
theorem dX6_layBest_121 : decode cX6_layBest 121 = .ok (.putfield 183, 3) := by decide +kernel
theorem dX6_layBest_124 : decode cX6_layBest 124 = .ok (.iinc 3 1, 3) := by decide +kernel
theorem dX6_layBest_127 : decode cX6_layBest 127 = .ok (.goto (-106), 3) := by decide +kernel
theorem dX6_layBest_130 : decode cX6_layBest 130 = .ok (.iinc 2 4, 3) := by decide +kernel
theorem dX6_layBest_133 : decode cX6_layBest 133 = .ok (.goto (-120), 3) := by decide +kernel
theorem dX6_layBest_136 : decode cX6_layBest 136 = .ok (.return_, 1) := by decide +kernel
theorem dX6_best_0 : decode cX6_best 0 = .ok (.iload_n 1, 1) := by decide +kernel
theorem dX6_best_1 : decode cX6_best 1 = .ok (.invokestatic 163, 3) := by decide +kernel
theorem dX6_best_4 : decode cX6_best 4 = .ok (.ifCond .eq 12, 3) := by decide +kernel
theorem dX6_best_7 : decode cX6_best 7 = .ok (.iload_n 2, 1) := by decide +kernel
theorem dX6_best_8 : decode cX6_best 8 = .ok (.iconst 0, 1) := by decide +kernel
theorem dX6_best_9 : decode cX6_best 9 = .ok (.iconst 2, 1) := by decide +kernel
theorem dX6_best_10 : decode cX6_best 10 = .ok (.invokestatic 109, 3) := by decide +kernel
theorem dX6_best_13 : decode cX6_best 13 = .ok (.ifCond .ne 6, 3) := by decide +kernel
theorem dX6_best_16 : decode cX6_best 16 = .ok (.bipush (-100), 2) := by decide +kernel
theorem dX6_best_18 : decode cX6_best 18 = .ok (.ireturn, 1) := by decide +kernel
theorem dX6_best_19 : decode cX6_best 19 = .ok (.aload_n 0, 1) := by decide +kernel
theorem dX6_best_20 : decode cX6_best 20 = .ok (.iload_n 1, 1) := by decide +kernel
theorem dX6_best_21 : decode cX6_best 21 = .ok (.invokevirtual 192, 3) := by decide +kernel
theorem dX6_best_24 : decode cX6_best 24 = .ok (.aload_n 0, 1) := by decide +kernel
theorem dX6_best_25 : decode cX6_best 25 = .ok (.getfield 179, 3) := by decide +kernel
theorem dX6_best_28 : decode cX6_best 28 = .ok (.bipush (-4), 2) := by decide +kernel
theorem dX6_best_30 : decode cX6_best 30 = .ok (.if_icmp .ne 8, 3) := by decide +kernel
theorem dX6_best_33 : decode cX6_best 33 = .ok (.bipush (-102), 2) := by decide +kernel
theorem dX6_best_35 : decode cX6_best 35 = .ok (.goto 30, 3) := by decide +kernel
theorem dX6_best_38 : decode cX6_best 38 = .ok (.iload_n 2, 1) := by decide +kernel
theorem dX6_best_39 : decode cX6_best 39 = .ok (.ifCond .ne 10, 3) := by decide +kernel
theorem dX6_best_42 : decode cX6_best 42 = .ok (.aload_n 0, 1) := by decide +kernel
theorem dX6_best_43 : decode cX6_best 43 = .ok (.getfield 179, 3) := by decide +kernel
theorem dX6_best_46 : decode cX6_best 46 = .ok (.goto 19, 3) := by decide +kernel
theorem dX6_best_49 : decode cX6_best 49 = .ok (.iload_n 2, 1) := by decide +kernel
theorem dX6_best_50 : decode cX6_best 50 = .ok (.iconst 1, 1) := by decide +kernel
theorem dX6_best_51 : decode cX6_best 51 = .ok (.if_icmp .ne 10, 3) := by decide +kernel
theorem dX6_best_54 : decode cX6_best 54 = .ok (.aload_n 0, 1) := by decide +kernel
theorem dX6_best_55 : decode cX6_best 55 = .ok (.getfield 189, 3) := by decide +kernel
theorem dX6_best_58 : decode cX6_best 58 = .ok (.goto 7, 3) := by decide +kernel
theorem dX6_best_61 : decode cX6_best 61 = .ok (.aload_n 0, 1) := by decide +kernel
theorem dX6_best_62 : decode cX6_best 62 = .ok (.getfield 183, 3) := by decide +kernel
theorem dX6_best_65 : decode cX6_best 65 = .ok (.ireturn, 1) := by decide +kernel
theorem dX6_ahead_0 : decode cX6_ahead 0 = .ok (.aload_n 0, 1) := by decide +kernel
theorem dX6_ahead_1 : decode cX6_ahead 1 = .ok (.invokevirtual 113, 3) := by decide +kernel
theorem dX6_ahead_4 : decode cX6_ahead 4 = .ok (.ifCond .eq 7, 3) := by decide +kernel
theorem dX6_ahead_7 : decode cX6_ahead 7 = .ok (.sipush (-10002), 3) := by decide +kernel
theorem dX6_ahead_10 : decode cX6_ahead 10 = .ok (.ireturn, 1) := by decide +kernel
theorem dX6_ahead_11 : decode cX6_ahead 11 = .ok (.aload_n 0, 1) := by decide +kernel
theorem dX6_ahead_12 : decode cX6_ahead 12 = .ok (.aload_n 0, 1) := by decide +kernel
theorem dX6_ahead_13 : decode cX6_ahead 13 = .ok (.invokevirtual 102, 3) := by decide +kernel
theorem dX6_ahead_16 : decode cX6_ahead 16 = .ok (.invokevirtual 192, 3) := by decide +kernel
theorem dX6_ahead_19 : decode cX6_ahead 19 = .ok (.aload_n 0, 1) := by decide +kernel
theorem dX6_ahead_20 : decode cX6_ahead 20 = .ok (.getfield 183, 3) := by decide +kernel
theorem dX6_ahead_23 : decode cX6_ahead 23 = .ok (.istore_n 1, 1) := by decide +kernel
theorem dX6_ahead_24 : decode cX6_ahead 24 = .ok (.aload_n 0, 1) := by decide +kernel
theorem dX6_ahead_25 : decode cX6_ahead 25 = .ok (.invokevirtual 102, 3) := by decide +kernel
theorem dX6_ahead_28 : decode cX6_ahead 28 = .ok (.iconst 1, 1) := by decide +kernel
theorem dX6_ahead_29 : decode cX6_ahead 29 = .ok (.iadd, 1) := by decide +kernel
theorem dX6_ahead_30 : decode cX6_ahead 30 = .ok (.iconst 4, 1) := by decide +kernel
theorem dX6_ahead_31 : decode cX6_ahead 31 = .ok (.irem, 1) := by decide +kernel
theorem dX6_ahead_32 : decode cX6_ahead 32 = .ok (.istore_n 2, 1) := by decide +kernel
theorem dX6_ahead_33 : decode cX6_ahead 33 = .ok (.aload_n 0, 1) := by decide +kernel
theorem dX6_ahead_34 : decode cX6_ahead 34 = .ok (.iload_n 2, 1) := by decide +kernel
theorem dX6_ahead_35 : decode cX6_ahead 35 = .ok (.invokevirtual 91, 3) := by decide +kernel
theorem dX6_ahead_38 : decode cX6_ahead 38 = .ok (.ifCond .ne 12, 3) := by decide +kernel
theorem dX6_ahead_41 : decode cX6_ahead 41 = .ok (.iload_n 2, 1) := by decide +kernel
theorem dX6_ahead_42 : decode cX6_ahead 42 = .ok (.iconst 1, 1) := by decide +kernel
theorem dX6_ahead_43 : decode cX6_ahead 43 = .ok (.iadd, 1) := by decide +kernel
theorem dX6_ahead_44 : decode cX6_ahead 44 = .ok (.iconst 4, 1) := by decide +kernel
theorem dX6_ahead_45 : decode cX6_ahead 45 = .ok (.irem, 1) := by decide +kernel
theorem dX6_ahead_46 : decode cX6_ahead 46 = .ok (.istore_n 2, 1) := by decide +kernel
theorem dX6_ahead_47 : decode cX6_ahead 47 = .ok (.goto (-14), 3) := by decide +kernel
theorem dX6_ahead_50 : decode cX6_ahead 50 = .ok (.aload_n 0, 1) := by decide +kernel
theorem dX6_ahead_51 : decode cX6_ahead 51 = .ok (.iload_n 2, 1) := by decide +kernel
theorem dX6_ahead_52 : decode cX6_ahead 52 = .ok (.invokevirtual 192, 3) := by decide +kernel
theorem dX6_ahead_55 : decode cX6_ahead 55 = .ok (.iload_n 1, 1) := by decide +kernel
theorem dX6_ahead_56 : decode cX6_ahead 56 = .ok (.aload_n 0, 1) := by decide +kernel
theorem dX6_ahead_57 : decode cX6_ahead 57 = .ok (.getfield 183, 3) := by decide +kernel
theorem dX6_ahead_60 : decode cX6_ahead 60 = .ok (.isub, 1) := by decide +kernel
theorem dX6_ahead_61 : decode cX6_ahead 61 = .ok (.ireturn, 1) := by decide +kernel
theorem dX6_write_0 : decode cX6_write 0 = .ok (.iload_n 1, 1) := by decide +kernel
theorem dX6_write_1 : decode cX6_write 1 = .ok (.invokestatic 117, 3) := by decide +kernel
theorem dX6_write_4 : decode cX6_write 4 = .ok (.ifCond .eq 27, 3) := by decide +kernel
theorem dX6_write_7 : decode cX6_write 7 = .ok (.iload_n 2, 1) := by decide +kernel
theorem dX6_write_8 : decode cX6_write 8 = .ok (.iload_n 3, 1) := by decide +kernel
theorem dX6_write_9 : decode cX6_write 9 = .ok (.invokestatic 120, 3) := by decide +kernel
theorem dX6_write_12 : decode cX6_write 12 = .ok (.ifCond .ne 21, 3) := by decide +kernel
theorem dX6_write_15 : decode cX6_write 15 = .ok (.iload_n 2, 1) := by decide +kernel
theorem dX6_write_16 : decode cX6_write 16 = .ok (.iload_n 3, 1) := by decide +kernel
theorem dX6_write_17 : decode cX6_write 17 = .ok (.invokestatic 123, 3) := by decide +kernel
theorem dX6_write_20 : decode cX6_write 20 = .ok (.ifCond .ne 13, 3) := by decide +kernel
theorem dX6_write_23 : decode cX6_write 23 = .ok (.iload_n 2, 1) := by decide +kernel
theorem dX6_write_24 : decode cX6_write 24 = .ok (.iload_n 3, 1) := by decide +kernel
theorem dX6_write_25 : decode cX6_write 25 = .ok (.invokestatic 126, 3) := by decide +kernel
theorem dX6_write_28 : decode cX6_write 28 = .ok (.ifCond .ne 5, 3) := by decide +kernel
theorem dX6_write_31 : decode cX6_write 31 = .ok (.iconst (-1), 1) := by decide +kernel
theorem dX6_write_32 : decode cX6_write 32 = .ok (.ireturn, 1) := by decide +kernel
theorem dX6_write_33 : decode cX6_write 33 = .ok (.aload_n 0, 1) := by decide +kernel
theorem dX6_write_34 : decode cX6_write 34 = .ok (.getfield 196, 3) := by decide +kernel
theorem dX6_write_37 : decode cX6_write 37 = .ok (.bipush 24, 2) := by decide +kernel
theorem dX6_write_39 : decode cX6_write 39 = .ok (.if_icmp .ne 6, 3) := by decide +kernel
theorem dX6_write_42 : decode cX6_write 42 = .ok (.bipush (-3), 2) := by decide +kernel
theorem dX6_write_44 : decode cX6_write 44 = .ok (.ireturn, 1) := by decide +kernel
theorem dX6_write_45 : decode cX6_write 45 = .ok (.aload_n 0, 1) := by decide +kernel
theorem dX6_write_46 : decode cX6_write 46 = .ok (.getfield 19, 3) := by decide +kernel
theorem dX6_write_49 : decode cX6_write 49 = .ok (.aload_n 0, 1) := by decide +kernel
theorem dX6_write_50 : decode cX6_write 50 = .ok (.getfield 196, 3) := by decide +kernel
theorem dX6_write_53 : decode cX6_write 53 = .ok (.iload_n 1, 1) := by decide +kernel
theorem dX6_write_54 : decode cX6_write 54 = .ok (.iastore, 1) := by decide +kernel
theorem dX6_write_55 : decode cX6_write 55 = .ok (.aload_n 0, 1) := by decide +kernel
theorem dX6_write_56 : decode cX6_write 56 = .ok (.getfield 22, 3) := by decide +kernel
theorem dX6_write_59 : decode cX6_write 59 = .ok (.aload_n 0, 1) := by decide +kernel
theorem dX6_write_60 : decode cX6_write 60 = .ok (.getfield 196, 3) := by decide +kernel
theorem dX6_write_63 : decode cX6_write 63 = .ok (.iload_n 2, 1) := by decide +kernel
theorem dX6_write_64 : decode cX6_write 64 = .ok (.iastore, 1) := by decide +kernel
theorem dX6_write_65 : decode cX6_write 65 = .ok (.aload_n 0, 1) := by decide +kernel
theorem dX6_write_66 : decode cX6_write 66 = .ok (.getfield 25, 3) := by decide +kernel
theorem dX6_write_69 : decode cX6_write 69 = .ok (.aload_n 0, 1) := by decide +kernel
theorem dX6_write_70 : decode cX6_write 70 = .ok (.getfield 196, 3) := by decide +kernel
theorem dX6_write_73 : decode cX6_write 73 = .ok (.iload_n 3, 1) := by decide +kernel
theorem dX6_write_74 : decode cX6_write 74 = .ok (.iastore, 1) := by decide +kernel
theorem dX6_write_75 : decode cX6_write 75 = .ok (.aload_n 0, 1) := by decide +kernel
theorem dX6_write_76 : decode cX6_write 76 = .ok (.dup, 1) := by decide +kernel
theorem dX6_write_77 : decode cX6_write 77 = .ok (.getfield 196, 3) := by decide +kernel
theorem dX6_write_80 : decode cX6_write 80 = .ok (.iconst 1, 1) := by decide +kernel
theorem dX6_write_81 : decode cX6_write 81 = .ok (.iadd, 1) := by decide +kernel
theorem dX6_write_82 : decode cX6_write 82 = .ok (.putfield 196, 3) := by decide +kernel
theorem dX6_write_85 : decode cX6_write 85 = .ok (.aload_n 0, 1) := by decide +kernel
theorem dX6_write_86 : decode cX6_write 86 = .ok (.getfield 196, 3) := by decide +kernel
theorem dX6_write_89 : decode cX6_write 89 = .ok (.ireturn, 1) := by decide +kernel
theorem dX6_wipe_0 : decode cX6_wipe 0 = .ok (.aload_n 0, 1) := by decide +kernel
theorem dX6_wipe_1 : decode cX6_wipe 1 = .ok (.getfield 196, 3) := by decide +kernel
theorem dX6_wipe_4 : decode cX6_wipe 4 = .ok (.istore_n 1, 1) := by decide +kernel
theorem dX6_wipe_5 : decode cX6_wipe 5 = .ok (.aload_n 0, 1) := by decide +kernel
theorem dX6_wipe_6 : decode cX6_wipe 6 = .ok (.iconst 0, 1) := by decide +kernel
theorem dX6_wipe_7 : decode cX6_wipe 7 = .ok (.putfield 196, 3) := by decide +kernel
theorem dX6_wipe_10 : decode cX6_wipe 10 = .ok (.iload_n 1, 1) := by decide +kernel
theorem dX6_wipe_11 : decode cX6_wipe 11 = .ok (.ireturn, 1) := by decide +kernel
theorem dX6_wrongWith_0 : decode cX6_wrongWith 0 = .ok (.aload_n 0, 1) := by decide +kernel
theorem dX6_wrongWith_1 : decode cX6_wrongWith 1 = .ok (.iconst 1, 1) := by decide +kernel
theorem dX6_wrongWith_2 : decode cX6_wrongWith 2 = .ok (.putfield 37, 3) := by decide +kernel
theorem dX6_wrongWith_5 : decode cX6_wrongWith 5 = .ok (.aload_n 0, 1) := by decide +kernel
theorem dX6_wrongWith_6 : decode cX6_wrongWith 6 = .ok (.invokevirtual 34, 3) := by decide +kernel
theorem dX6_wrongWith_9 : decode cX6_wrongWith 9 = .ok (.bipush (-4), 2) := by decide +kernel
theorem dX6_wrongWith_11 : decode cX6_wrongWith 11 = .ok (.istore_n 3, 1) := by decide +kernel
theorem dX6_wrongWith_12 : decode cX6_wrongWith 12 = .ok (.iconst 0, 1) := by decide +kernel
theorem dX6_wrongWith_13 : decode cX6_wrongWith 13 = .ok (.istore 4, 2) := by decide +kernel
theorem dX6_wrongWith_15 : decode cX6_wrongWith 15 = .ok (.iload 4, 2) := by decide +kernel
theorem dX6_wrongWith_17 : decode cX6_wrongWith 17 = .ok (.aload_n 0, 1) := by decide +kernel
theorem dX6_wrongWith_18 : decode cX6_wrongWith 18 = .ok (.getfield 196, 3) := by decide +kernel
theorem dX6_wrongWith_21 : decode cX6_wrongWith 21 = .ok (.if_icmp .ge 141, 3) := by decide +kernel
theorem dX6_wrongWith_24 : decode cX6_wrongWith 24 = .ok (.iload_n 3, 1) := by decide +kernel
theorem dX6_wrongWith_25 : decode cX6_wrongWith 25 = .ok (.bipush (-4), 2) := by decide +kernel
theorem dX6_wrongWith_27 : decode cX6_wrongWith 27 = .ok (.if_icmp .ne 135, 3) := by decide +kernel
theorem dX6_wrongWith_30 : decode cX6_wrongWith 30 = .ok (.aload_n 0, 1) := by decide +kernel
theorem dX6_wrongWith_31 : decode cX6_wrongWith 31 = .ok (.aload_n 0, 1) := by decide +kernel
theorem dX6_wrongWith_32 : decode cX6_wrongWith 32 = .ok (.getfield 19, 3) := by decide +kernel
theorem dX6_wrongWith_35 : decode cX6_wrongWith 35 = .ok (.iload 4, 2) := by decide +kernel
theorem dX6_wrongWith_37 : decode cX6_wrongWith 37 = .ok (.iaload, 1) := by decide +kernel
theorem dX6_wrongWith_38 : decode cX6_wrongWith 38 = .ok (.invokevirtual 143, 3) := by decide +kernel
theorem dX6_wrongWith_41 : decode cX6_wrongWith 41 = .ok (.ifCond .eq 112, 3) := by decide +kernel
theorem dX6_wrongWith_44 : decode cX6_wrongWith 44 = .ok (.aload_n 0, 1) := by decide +kernel
theorem dX6_wrongWith_45 : decode cX6_wrongWith 45 = .ok (.getfield 22, 3) := by decide +kernel
theorem dX6_wrongWith_48 : decode cX6_wrongWith 48 = .ok (.iload 4, 2) := by decide +kernel
theorem dX6_wrongWith_50 : decode cX6_wrongWith 50 = .ok (.iaload, 1) := by decide +kernel
theorem dX6_wrongWith_51 : decode cX6_wrongWith 51 = .ok (.aload_n 0, 1) := by decide +kernel
theorem dX6_wrongWith_52 : decode cX6_wrongWith 52 = .ok (.getfield 25, 3) := by decide +kernel
theorem dX6_wrongWith_55 : decode cX6_wrongWith 55 = .ok (.iload 4, 2) := by decide +kernel
theorem dX6_wrongWith_57 : decode cX6_wrongWith 57 = .ok (.iaload, 1) := by decide +kernel
theorem dX6_wrongWith_58 : decode cX6_wrongWith 58 = .ok (.invokestatic 126, 3) := by decide +kernel
theorem dX6_wrongWith_61 : decode cX6_wrongWith 61 = .ok (.istore 5, 2) := by decide +kernel
theorem dX6_wrongWith_63 : decode cX6_wrongWith 63 = .ok (.iload 5, 2) := by decide +kernel
theorem dX6_wrongWith_65 : decode cX6_wrongWith 65 = .ok (.ifCond .eq 7, 3) := by decide +kernel
theorem dX6_wrongWith_68 : decode cX6_wrongWith 68 = .ok (.iload_n 1, 1) := by decide +kernel
theorem dX6_wrongWith_69 : decode cX6_wrongWith 69 = .ok (.goto 10, 3) := by decide +kernel
theorem dX6_wrongWith_72 : decode cX6_wrongWith 72 = .ok (.aload_n 0, 1) := by decide +kernel
theorem dX6_wrongWith_73 : decode cX6_wrongWith 73 = .ok (.getfield 22, 3) := by decide +kernel
theorem dX6_wrongWith_76 : decode cX6_wrongWith 76 = .ok (.iload 4, 2) := by decide +kernel
theorem dX6_wrongWith_78 : decode cX6_wrongWith 78 = .ok (.iaload, 1) := by decide +kernel
theorem dX6_wrongWith_79 : decode cX6_wrongWith 79 = .ok (.istore 6, 2) := by decide +kernel
theorem dX6_wrongWith_81 : decode cX6_wrongWith 81 = .ok (.iload 5, 2) := by decide +kernel
theorem dX6_wrongWith_83 : decode cX6_wrongWith 83 = .ok (.ifCond .eq 7, 3) := by decide +kernel
theorem dX6_wrongWith_86 : decode cX6_wrongWith 86 = .ok (.iload_n 2, 1) := by decide +kernel
theorem dX6_wrongWith_87 : decode cX6_wrongWith 87 = .ok (.goto 10, 3) := by decide +kernel
theorem dX6_wrongWith_90 : decode cX6_wrongWith 90 = .ok (.aload_n 0, 1) := by decide +kernel
theorem dX6_wrongWith_91 : decode cX6_wrongWith 91 = .ok (.getfield 25, 3) := by decide +kernel
theorem dX6_wrongWith_94 : decode cX6_wrongWith 94 = .ok (.iload 4, 2) := by decide +kernel
theorem dX6_wrongWith_96 : decode cX6_wrongWith 96 = .ok (.iaload, 1) := by decide +kernel
theorem dX6_wrongWith_97 : decode cX6_wrongWith 97 = .ok (.istore 7, 2) := by decide +kernel
theorem dX6_wrongWith_99 : decode cX6_wrongWith 99 = .ok (.iload 6, 2) := by decide +kernel
theorem dX6_wrongWith_101 : decode cX6_wrongWith 101 = .ok (.iload 7, 2) := by decide +kernel
theorem dX6_wrongWith_103 : decode cX6_wrongWith 103 = .ok (.invokestatic 123, 3) := by decide +kernel
theorem dX6_wrongWith_106 : decode cX6_wrongWith 106 = .ok (.ifCond .eq 18, 3) := by decide +kernel
theorem dX6_wrongWith_109 : decode cX6_wrongWith 109 = .ok (.aload_n 0, 1) := by decide +kernel
theorem dX6_wrongWith_110 : decode cX6_wrongWith 110 = .ok (.aload_n 0, 1) := by decide +kernel
theorem dX6_wrongWith_111 : decode cX6_wrongWith 111 = .ok (.getfield 19, 3) := by decide +kernel
theorem dX6_wrongWith_114 : decode cX6_wrongWith 114 = .ok (.iload 4, 2) := by decide +kernel
theorem dX6_wrongWith_116 : decode cX6_wrongWith 116 = .ok (.iaload, 1) := by decide +kernel
theorem dX6_wrongWith_117 : decode cX6_wrongWith 117 = .ok (.iconst 2, 1) := by decide +kernel
theorem dX6_wrongWith_118 : decode cX6_wrongWith 118 = .ok (.invokevirtual 54, 3) := by decide +kernel
theorem dX6_wrongWith_121 : decode cX6_wrongWith 121 = .ok (.goto 18, 3) := by decide +kernel
theorem dX6_wrongWith_124 : decode cX6_wrongWith 124 = .ok (.aload_n 0, 1) := by decide +kernel
theorem dX6_wrongWith_125 : decode cX6_wrongWith 125 = .ok (.aload_n 0, 1) := by decide +kernel
theorem dX6_wrongWith_126 : decode cX6_wrongWith 126 = .ok (.getfield 19, 3) := by decide +kernel
theorem dX6_wrongWith_129 : decode cX6_wrongWith 129 = .ok (.iload 4, 2) := by decide +kernel
theorem dX6_wrongWith_131 : decode cX6_wrongWith 131 = .ok (.iaload, 1) := by decide +kernel
theorem dX6_wrongWith_132 : decode cX6_wrongWith 132 = .ok (.iload 6, 2) := by decide +kernel
theorem dX6_wrongWith_134 : decode cX6_wrongWith 134 = .ok (.iload 7, 2) := by decide +kernel
theorem dX6_wrongWith_136 : decode cX6_wrongWith 136 = .ok (.invokevirtual 129, 3) := by decide +kernel
theorem dX6_wrongWith_139 : decode cX6_wrongWith 139 = .ok (.aload_n 0, 1) := by decide +kernel
theorem dX6_wrongWith_140 : decode cX6_wrongWith 140 = .ok (.iload 6, 2) := by decide +kernel
theorem dX6_wrongWith_142 : decode cX6_wrongWith 142 = .ok (.iload 7, 2) := by decide +kernel
theorem dX6_wrongWith_144 : decode cX6_wrongWith 144 = .ok (.invokestatic 123, 3) := by decide +kernel
theorem dX6_wrongWith_147 : decode cX6_wrongWith 147 = .ok (.invokevirtual 159, 3) := by decide +kernel
theorem dX6_wrongWith_150 : decode cX6_wrongWith 150 = .ok (.goto 6, 3) := by decide +kernel
theorem dX6_wrongWith_153 : decode cX6_wrongWith 153 = .ok (.iload 4, 2) := by decide +kernel
theorem dX6_wrongWith_155 : decode cX6_wrongWith 155 = .ok (.istore_n 3, 1) := by decide +kernel
theorem dX6_wrongWith_156 : decode cX6_wrongWith 156 = .ok (.iinc 4 1, 3) := by decide +kernel
theorem dX6_wrongWith_159 : decode cX6_wrongWith 159 = .ok (.goto (-144), 3) := by decide +kernel
theorem dX6_wrongWith_162 : decode cX6_wrongWith 162 = .ok (.aload_n 0, 1) := by decide +kernel
theorem dX6_wrongWith_163 : decode cX6_wrongWith 163 = .ok (.iconst 0, 1) := by decide +kernel
theorem dX6_wrongWith_164 : decode cX6_wrongWith 164 = .ok (.putfield 37, 3) := by decide +kernel
theorem dX6_wrongWith_167 : decode cX6_wrongWith 167 = .ok (.iload_n 3, 1) := by decide +kernel
theorem dX6_wrongWith_168 : decode cX6_wrongWith 168 = .ok (.ireturn, 1) := by decide +kernel
theorem dX6_wrong_0 : decode cX6_wrong 0 = .ok (.aload_n 0, 1) := by decide +kernel
theorem dX6_wrong_1 : decode cX6_wrong 1 = .ok (.iconst (-1), 1) := by decide +kernel
theorem dX6_wrong_2 : decode cX6_wrong 2 = .ok (.iconst (-1), 1) := by decide +kernel
theorem dX6_wrong_3 : decode cX6_wrong 3 = .ok (.invokevirtual 199, 3) := by decide +kernel
theorem dX6_wrong_6 : decode cX6_wrong 6 = .ok (.ireturn, 1) := by decide +kernel
theorem dX6_canBe_0 : decode cX6_canBe 0 = .ok (.iload_n 1, 1) := by decide +kernel
theorem dX6_canBe_1 : decode cX6_canBe 1 = .ok (.iconst 0, 1) := by decide +kernel
theorem dX6_canBe_2 : decode cX6_canBe 2 = .ok (.iconst 1, 1) := by decide +kernel
theorem dX6_canBe_3 : decode cX6_canBe 3 = .ok (.invokestatic 109, 3) := by decide +kernel
theorem dX6_canBe_6 : decode cX6_canBe 6 = .ok (.ifCond .ne 5, 3) := by decide +kernel
theorem dX6_canBe_9 : decode cX6_canBe 9 = .ok (.iconst (-1), 1) := by decide +kernel
theorem dX6_canBe_10 : decode cX6_canBe 10 = .ok (.ireturn, 1) := by decide +kernel
theorem dX6_canBe_11 : decode cX6_canBe 11 = .ok (.iconst 0, 1) := by decide +kernel
theorem dX6_canBe_12 : decode cX6_canBe 12 = .ok (.istore_n 2, 1) := by decide +kernel
theorem dX6_canBe_13 : decode cX6_canBe 13 = .ok (.iconst 0, 1) := by decide +kernel
theorem dX6_canBe_14 : decode cX6_canBe 14 = .ok (.istore_n 3, 1) := by decide +kernel
theorem dX6_canBe_15 : decode cX6_canBe 15 = .ok (.iload_n 3, 1) := by decide +kernel
theorem dX6_canBe_16 : decode cX6_canBe 16 = .ok (.aload_n 0, 1) := by decide +kernel
theorem dX6_canBe_17 : decode cX6_canBe 17 = .ok (.getfield 196, 3) := by decide +kernel
theorem dX6_canBe_20 : decode cX6_canBe 20 = .ok (.if_icmp .ge 35, 3) := by decide +kernel
theorem dX6_canBe_23 : decode cX6_canBe 23 = .ok (.iload_n 2, 1) := by decide +kernel
theorem dX6_canBe_24 : decode cX6_canBe 24 = .ok (.aload_n 0, 1) := by decide +kernel
theorem dX6_canBe_25 : decode cX6_canBe 25 = .ok (.getfield 22, 3) := by decide +kernel
theorem dX6_canBe_28 : decode cX6_canBe 28 = .ok (.iload_n 3, 1) := by decide +kernel
theorem dX6_canBe_29 : decode cX6_canBe 29 = .ok (.iaload, 1) := by decide +kernel
theorem dX6_canBe_30 : decode cX6_canBe 30 = .ok (.aload_n 0, 1) := by decide +kernel
theorem dX6_canBe_31 : decode cX6_canBe 31 = .ok (.getfield 25, 3) := by decide +kernel
theorem dX6_canBe_34 : decode cX6_canBe 34 = .ok (.iload_n 3, 1) := by decide +kernel
theorem dX6_canBe_35 : decode cX6_canBe 35 = .ok (.iaload, 1) := by decide +kernel
theorem dX6_canBe_36 : decode cX6_canBe 36 = .ok (.invokestatic 126, 3) := by decide +kernel
theorem dX6_canBe_39 : decode cX6_canBe 39 = .ok (.ifCond .eq 7, 3) := by decide +kernel
theorem dX6_canBe_42 : decode cX6_canBe 42 = .ok (.iconst 1, 1) := by decide +kernel
theorem dX6_canBe_43 : decode cX6_canBe 43 = .ok (.goto 4, 3) := by decide +kernel
theorem dX6_canBe_46 : decode cX6_canBe 46 = .ok (.iconst 0, 1) := by decide +kernel
theorem dX6_canBe_47 : decode cX6_canBe 47 = .ok (.iadd, 1) := by decide +kernel
theorem dX6_canBe_48 : decode cX6_canBe 48 = .ok (.istore_n 2, 1) := by decide +kernel
theorem dX6_canBe_49 : decode cX6_canBe 49 = .ok (.iinc 3 1, 3) := by decide +kernel
theorem dX6_canBe_52 : decode cX6_canBe 52 = .ok (.goto (-37), 3) := by decide +kernel
theorem dX6_canBe_55 : decode cX6_canBe 55 = .ok (.iload_n 2, 1) := by decide +kernel
theorem dX6_canBe_56 : decode cX6_canBe 56 = .ok (.iconst 1, 1) := by decide +kernel
theorem dX6_canBe_57 : decode cX6_canBe 57 = .ok (.if_icmp .eq 6, 3) := by decide +kernel
theorem dX6_canBe_60 : decode cX6_canBe 60 = .ok (.bipush (-2), 2) := by decide +kernel
theorem dX6_canBe_62 : decode cX6_canBe 62 = .ok (.ireturn, 1) := by decide +kernel
theorem dX6_canBe_63 : decode cX6_canBe 63 = .ok (.iconst 0, 1) := by decide +kernel
theorem dX6_canBe_64 : decode cX6_canBe 64 = .ok (.istore_n 3, 1) := by decide +kernel
theorem dX6_canBe_65 : decode cX6_canBe 65 = .ok (.bipush (-4), 2) := by decide +kernel
theorem dX6_canBe_67 : decode cX6_canBe 67 = .ok (.istore 4, 2) := by decide +kernel
theorem dX6_canBe_69 : decode cX6_canBe 69 = .ok (.iconst 0, 1) := by decide +kernel
theorem dX6_canBe_70 : decode cX6_canBe 70 = .ok (.istore 5, 2) := by decide +kernel
theorem dX6_canBe_72 : decode cX6_canBe 72 = .ok (.iload 5, 2) := by decide +kernel
theorem dX6_canBe_74 : decode cX6_canBe 74 = .ok (.bipush 41, 2) := by decide +kernel
theorem dX6_canBe_76 : decode cX6_canBe 76 = .ok (.if_icmp .gt 80, 3) := by decide +kernel
theorem dX6_canBe_79 : decode cX6_canBe 79 = .ok (.iconst 0, 1) := by decide +kernel
theorem dX6_canBe_80 : decode cX6_canBe 80 = .ok (.istore 6, 2) := by decide +kernel
theorem dX6_canBe_82 : decode cX6_canBe 82 = .ok (.iload 6, 2) := by decide +kernel
theorem dX6_canBe_84 : decode cX6_canBe 84 = .ok (.bipush 41, 2) := by decide +kernel
theorem dX6_canBe_86 : decode cX6_canBe 86 = .ok (.if_icmp .gt 64, 3) := by decide +kernel
theorem dX6_canBe_89 : decode cX6_canBe 89 = .ok (.iload 5, 2) := by decide +kernel
theorem dX6_canBe_91 : decode cX6_canBe 91 = .ok (.iload 6, 2) := by decide +kernel
theorem dX6_canBe_93 : decode cX6_canBe 93 = .ok (.invokestatic 120, 3) := by decide +kernel
theorem dX6_canBe_96 : decode cX6_canBe 96 = .ok (.ifCond .ne 13, 3) := by decide +kernel
theorem dX6_canBe_99 : decode cX6_canBe 99 = .ok (.iload 5, 2) := by decide +kernel
theorem dX6_canBe_101 : decode cX6_canBe 101 = .ok (.iload 6, 2) := by decide +kernel
theorem dX6_canBe_103 : decode cX6_canBe 103 = .ok (.invokestatic 123, 3) := by decide +kernel
theorem dX6_canBe_106 : decode cX6_canBe 106 = .ok (.ifCond .eq 38, 3) := by decide +kernel
theorem dX6_canBe_109 : decode cX6_canBe 109 = .ok (.aload_n 0, 1) := by decide +kernel
theorem dX6_canBe_110 : decode cX6_canBe 110 = .ok (.iload 5, 2) := by decide +kernel
theorem dX6_canBe_112 : decode cX6_canBe 112 = .ok (.iload 6, 2) := by decide +kernel
theorem dX6_canBe_114 : decode cX6_canBe 114 = .ok (.invokevirtual 199, 3) := by decide +kernel
theorem dX6_canBe_117 : decode cX6_canBe 117 = .ok (.bipush (-4), 2) := by decide +kernel
theorem dX6_canBe_119 : decode cX6_canBe 119 = .ok (.if_icmp .ne 25, 3) := by decide +kernel
theorem dX6_canBe_122 : decode cX6_canBe 122 = .ok (.iload_n 3, 1) := by decide +kernel
theorem dX6_canBe_123 : decode cX6_canBe 123 = .ok (.ifCond .ne 14, 3) := by decide +kernel
theorem dX6_canBe_126 : decode cX6_canBe 126 = .ok (.bipush 100, 2) := by decide +kernel
theorem dX6_canBe_128 : decode cX6_canBe 128 = .ok (.iload 5, 2) := by decide +kernel
theorem dX6_canBe_130 : decode cX6_canBe 130 = .ok (.imul, 1) := by decide +kernel
theorem dX6_canBe_131 : decode cX6_canBe 131 = .ok (.iload 6, 2) := by decide +kernel
theorem dX6_canBe_133 : decode cX6_canBe 133 = .ok (.iadd, 1) := by decide +kernel
theorem dX6_canBe_134 : decode cX6_canBe 134 = .ok (.goto 5, 3) := by decide +kernel
theorem dX6_canBe_137 : decode cX6_canBe 137 = .ok (.iload 4, 2) := by decide +kernel
theorem dX6_canBe_139 : decode cX6_canBe 139 = .ok (.istore 4, 2) := by decide +kernel
theorem dX6_canBe_141 : decode cX6_canBe 141 = .ok (.iinc 3 1, 3) := by decide +kernel
theorem dX6_canBe_144 : decode cX6_canBe 144 = .ok (.iinc 6 1, 3) := by decide +kernel
theorem dX6_canBe_147 : decode cX6_canBe 147 = .ok (.goto (-65), 3) := by decide +kernel
theorem dX6_canBe_150 : decode cX6_canBe 150 = .ok (.iinc 5 1, 3) := by decide +kernel
theorem dX6_canBe_153 : decode cX6_canBe 153 = .ok (.goto (-81), 3) := by decide +kernel
theorem dX6_canBe_156 : decode cX6_canBe 156 = .ok (.iload_n 1, 1) := by decide +kernel
theorem dX6_canBe_157 : decode cX6_canBe 157 = .ok (.ifCond .ne 7, 3) := by decide +kernel
theorem dX6_canBe_160 : decode cX6_canBe 160 = .ok (.iload_n 3, 1) := by decide +kernel
theorem dX6_canBe_161 : decode cX6_canBe 161 = .ok (.goto 5, 3) := by decide +kernel
theorem dX6_canBe_164 : decode cX6_canBe 164 = .ok (.iload 4, 2) := by decide +kernel
theorem dX6_canBe_166 : decode cX6_canBe 166 = .ok (.ireturn, 1) := by decide +kernel
theorem dX6_pairsOf_0 : decode cX6_pairsOf 0 = .ok (.iconst 0, 1) := by decide +kernel
theorem dX6_pairsOf_1 : decode cX6_pairsOf 1 = .ok (.istore_n 2, 1) := by decide +kernel
theorem dX6_pairsOf_2 : decode cX6_pairsOf 2 = .ok (.iconst 0, 1) := by decide +kernel
theorem dX6_pairsOf_3 : decode cX6_pairsOf 3 = .ok (.istore_n 3, 1) := by decide +kernel
theorem dX6_pairsOf_4 : decode cX6_pairsOf 4 = .ok (.iload_n 3, 1) := by decide +kernel
theorem dX6_pairsOf_5 : decode cX6_pairsOf 5 = .ok (.iconst 5, 1) := by decide +kernel
theorem dX6_pairsOf_6 : decode cX6_pairsOf 6 = .ok (.if_icmp .ge 22, 3) := by decide +kernel
theorem dX6_pairsOf_9 : decode cX6_pairsOf 9 = .ok (.iload_n 2, 1) := by decide +kernel
theorem dX6_pairsOf_10 : decode cX6_pairsOf 10 = .ok (.aload_n 0, 1) := by decide +kernel
theorem dX6_pairsOf_11 : decode cX6_pairsOf 11 = .ok (.getfield 28, 3) := by decide +kernel
theorem dX6_pairsOf_14 : decode cX6_pairsOf 14 = .ok (.iconst 5, 1) := by decide +kernel
theorem dX6_pairsOf_15 : decode cX6_pairsOf 15 = .ok (.iload_n 1, 1) := by decide +kernel
theorem dX6_pairsOf_16 : decode cX6_pairsOf 16 = .ok (.imul, 1) := by decide +kernel
theorem dX6_pairsOf_17 : decode cX6_pairsOf 17 = .ok (.iload_n 3, 1) := by decide +kernel
theorem dX6_pairsOf_18 : decode cX6_pairsOf 18 = .ok (.iadd, 1) := by decide +kernel
theorem dX6_pairsOf_19 : decode cX6_pairsOf 19 = .ok (.iaload, 1) := by decide +kernel
theorem dX6_pairsOf_20 : decode cX6_pairsOf 20 = .ok (.iadd, 1) := by decide +kernel
theorem dX6_pairsOf_21 : decode cX6_pairsOf 21 = .ok (.istore_n 2, 1) := by decide +kernel
theorem dX6_pairsOf_22 : decode cX6_pairsOf 22 = .ok (.iinc 3 1, 3) := by decide +kernel
theorem dX6_pairsOf_25 : decode cX6_pairsOf 25 = .ok (.goto (-21), 3) := by decide +kernel
theorem dX6_pairsOf_28 : decode cX6_pairsOf 28 = .ok (.iload_n 2, 1) := by decide +kernel
theorem dX6_pairsOf_29 : decode cX6_pairsOf 29 = .ok (.ireturn, 1) := by decide +kernel
theorem dX6_seen_0 : decode cX6_seen 0 = .ok (.iload_n 1, 1) := by decide +kernel
theorem dX6_seen_1 : decode cX6_seen 1 = .ok (.invokestatic 163, 3) := by decide +kernel
theorem dX6_seen_4 : decode cX6_seen 4 = .ok (.ifCond .eq 31, 3) := by decide +kernel
theorem dX6_seen_7 : decode cX6_seen 7 = .ok (.iload_n 2, 1) := by decide +kernel
theorem dX6_seen_8 : decode cX6_seen 8 = .ok (.iload_n 3, 1) := by decide +kernel
theorem dX6_seen_9 : decode cX6_seen 9 = .ok (.invokestatic 120, 3) := by decide +kernel
theorem dX6_seen_12 : decode cX6_seen 12 = .ok (.ifCond .eq 23, 3) := by decide +kernel
theorem dX6_seen_15 : decode cX6_seen 15 = .ok (.iload 4, 2) := by decide +kernel
theorem dX6_seen_17 : decode cX6_seen 17 = .ok (.iload 5, 2) := by decide +kernel
theorem dX6_seen_19 : decode cX6_seen 19 = .ok (.invokestatic 120, 3) := by decide +kernel
theorem dX6_seen_22 : decode cX6_seen 22 = .ok (.ifCond .eq 13, 3) := by decide +kernel
theorem dX6_seen_25 : decode cX6_seen 25 = .ok (.iload 6, 2) := by decide +kernel
theorem dX6_seen_27 : decode cX6_seen 27 = .ok (.iload 7, 2) := by decide +kernel
theorem dX6_seen_29 : decode cX6_seen 29 = .ok (.invokestatic 120, 3) := by decide +kernel
theorem dX6_seen_32 : decode cX6_seen 32 = .ok (.ifCond .ne 5, 3) := by decide +kernel
theorem dX6_seen_35 : decode cX6_seen 35 = .ok (.iconst (-1), 1) := by decide +kernel
theorem dX6_seen_36 : decode cX6_seen 36 = .ok (.ireturn, 1) := by decide +kernel
theorem dX6_seen_37 : decode cX6_seen 37 = .ok (.aload_n 0, 1) := by decide +kernel
theorem dX6_seen_38 : decode cX6_seen 38 = .ok (.iload_n 1, 1) := by decide +kernel
theorem dX6_seen_39 : decode cX6_seen 39 = .ok (.invokevirtual 202, 3) := by decide +kernel
theorem dX6_seen_42 : decode cX6_seen 42 = .ok (.sipush 1000, 3) := by decide +kernel
theorem dX6_seen_45 : decode cX6_seen 45 = .ok (.if_icmp .ne 6, 3) := by decide +kernel
theorem dX6_seen_48 : decode cX6_seen 48 = .ok (.bipush (-3), 2) := by decide +kernel
theorem dX6_seen_50 : decode cX6_seen 50 = .ok (.ireturn, 1) := by decide +kernel
theorem dX6_seen_51 : decode cX6_seen 51 = .ok (.iload_n 2, 1) := by decide +kernel
theorem dX6_seen_52 : decode cX6_seen 52 = .ok (.iload_n 3, 1) := by decide +kernel
theorem dX6_seen_53 : decode cX6_seen 53 = .ok (.iload 4, 2) := by decide +kernel
theorem dX6_seen_55 : decode cX6_seen 55 = .ok (.iload 5, 2) := by decide +kernel
theorem dX6_seen_57 : decode cX6_seen 57 = .ok (.invokestatic 146, 3) := by decide +kernel
theorem dX6_seen_60 : decode cX6_seen 60 = .ok (.bipush 8, 2) := by decide +kernel
theorem dX6_seen_62 : decode cX6_seen 62 = .ok (.idiv, 1) := by decide +kernel
theorem dX6_seen_63 : decode cX6_seen 63 = .ok (.istore 8, 2) := by decide +kernel
theorem dX6_seen_65 : decode cX6_seen 65 = .ok (.iload 8, 2) := by decide +kernel
theorem dX6_seen_67 : decode cX6_seen 67 = .ok (.iconst 4, 1) := by decide +kernel
theorem dX6_seen_68 : decode cX6_seen 68 = .ok (.if_icmp .le 7, 3) := by decide +kernel
theorem dX6_seen_71 : decode cX6_seen 71 = .ok (.iconst 4, 1) := by decide +kernel
theorem dX6_seen_72 : decode cX6_seen 72 = .ok (.goto 5, 3) := by decide +kernel
theorem dX6_seen_75 : decode cX6_seen 75 = .ok (.iload 8, 2) := by decide +kernel
theorem dX6_seen_77 : decode cX6_seen 77 = .ok (.istore 8, 2) := by decide +kernel
theorem dX6_seen_79 : decode cX6_seen 79 = .ok (.aload_n 0, 1) := by decide +kernel
theorem dX6_seen_80 : decode cX6_seen 80 = .ok (.getfield 28, 3) := by decide +kernel
theorem dX6_seen_83 : decode cX6_seen 83 = .ok (.iconst 5, 1) := by decide +kernel
theorem dX6_seen_84 : decode cX6_seen 84 = .ok (.iload_n 1, 1) := by decide +kernel
theorem dX6_seen_85 : decode cX6_seen 85 = .ok (.imul, 1) := by decide +kernel
theorem dX6_seen_86 : decode cX6_seen 86 = .ok (.iload 8, 2) := by decide +kernel
theorem dX6_seen_88 : decode cX6_seen 88 = .ok (.iadd, 1) := by decide +kernel
theorem dX6_seen_89 : decode cX6_seen 89 = .ok (.dup2, 1) := by decide +kernel
theorem dX6_seen_90 : decode cX6_seen 90 = .ok (.iaload, 1) := by decide +kernel
theorem dX6_seen_91 : decode cX6_seen 91 = .ok (.iconst 1, 1) := by decide +kernel
theorem dX6_seen_92 : decode cX6_seen 92 = .ok (.iadd, 1) := by decide +kernel
theorem dX6_seen_93 : decode cX6_seen 93 = .ok (.iastore, 1) := by decide +kernel
theorem dX6_seen_94 : decode cX6_seen 94 = .ok (.aload_n 0, 1) := by decide +kernel
theorem dX6_seen_95 : decode cX6_seen 95 = .ok (.getfield 31, 3) := by decide +kernel
theorem dX6_seen_98 : decode cX6_seen 98 = .ok (.iconst 5, 1) := by decide +kernel
theorem dX6_seen_99 : decode cX6_seen 99 = .ok (.iload_n 1, 1) := by decide +kernel
theorem dX6_seen_100 : decode cX6_seen 100 = .ok (.imul, 1) := by decide +kernel
theorem dX6_seen_101 : decode cX6_seen 101 = .ok (.iload 8, 2) := by decide +kernel
theorem dX6_seen_103 : decode cX6_seen 103 = .ok (.iadd, 1) := by decide +kernel
theorem dX6_seen_104 : decode cX6_seen 104 = .ok (.dup2, 1) := by decide +kernel
theorem dX6_seen_105 : decode cX6_seen 105 = .ok (.iaload, 1) := by decide +kernel
theorem dX6_seen_106 : decode cX6_seen 106 = .ok (.iload 6, 2) := by decide +kernel
theorem dX6_seen_108 : decode cX6_seen 108 = .ok (.iload 4, 2) := by decide +kernel
theorem dX6_seen_110 : decode cX6_seen 110 = .ok (.isub, 1) := by decide +kernel
theorem dX6_seen_111 : decode cX6_seen 111 = .ok (.invokestatic 140, 3) := by decide +kernel
theorem dX6_seen_114 : decode cX6_seen 114 = .ok (.iload 7, 2) := by decide +kernel
theorem dX6_seen_116 : decode cX6_seen 116 = .ok (.iload 5, 2) := by decide +kernel
theorem dX6_seen_118 : decode cX6_seen 118 = .ok (.isub, 1) := by decide +kernel
theorem dX6_seen_119 : decode cX6_seen 119 = .ok (.invokestatic 140, 3) := by decide +kernel
theorem dX6_seen_122 : decode cX6_seen 122 = .ok (.iadd, 1) := by decide +kernel
theorem dX6_seen_123 : decode cX6_seen 123 = .ok (.iadd, 1) := by decide +kernel
theorem dX6_seen_124 : decode cX6_seen 124 = .ok (.iastore, 1) := by decide +kernel
theorem dX6_seen_125 : decode cX6_seen 125 = .ok (.aload_n 0, 1) := by decide +kernel
theorem dX6_seen_126 : decode cX6_seen 126 = .ok (.iload_n 1, 1) := by decide +kernel
theorem dX6_seen_127 : decode cX6_seen 127 = .ok (.invokevirtual 202, 3) := by decide +kernel
theorem dX6_seen_130 : decode cX6_seen 130 = .ok (.ireturn, 1) := by decide +kernel
theorem dX6_scatter_0 : decode cX6_scatter 0 = .ok (.iload_n 1, 1) := by decide +kernel
theorem dX6_scatter_1 : decode cX6_scatter 1 = .ok (.invokestatic 163, 3) := by decide +kernel
theorem dX6_scatter_4 : decode cX6_scatter 4 = .ok (.ifCond .eq 21, 3) := by decide +kernel
theorem dX6_scatter_7 : decode cX6_scatter 7 = .ok (.iload_n 2, 1) := by decide +kernel
theorem dX6_scatter_8 : decode cX6_scatter 8 = .ok (.iconst 0, 1) := by decide +kernel
theorem dX6_scatter_9 : decode cX6_scatter 9 = .ok (.iconst 4, 1) := by decide +kernel
theorem dX6_scatter_10 : decode cX6_scatter 10 = .ok (.invokestatic 109, 3) := by decide +kernel
theorem dX6_scatter_13 : decode cX6_scatter 13 = .ok (.ifCond .eq 12, 3) := by decide +kernel
theorem dX6_scatter_16 : decode cX6_scatter 16 = .ok (.iload_n 3, 1) := by decide +kernel
theorem dX6_scatter_17 : decode cX6_scatter 17 = .ok (.iconst 0, 1) := by decide +kernel
theorem dX6_scatter_18 : decode cX6_scatter 18 = .ok (.iconst 2, 1) := by decide +kernel
theorem dX6_scatter_19 : decode cX6_scatter 19 = .ok (.invokestatic 109, 3) := by decide +kernel
theorem dX6_scatter_22 : decode cX6_scatter 22 = .ok (.ifCond .ne 5, 3) := by decide +kernel
theorem dX6_scatter_25 : decode cX6_scatter 25 = .ok (.iconst (-1), 1) := by decide +kernel
theorem dX6_scatter_26 : decode cX6_scatter 26 = .ok (.ireturn, 1) := by decide +kernel
theorem dX6_scatter_27 : decode cX6_scatter 27 = .ok (.aload_n 0, 1) := by decide +kernel
theorem dX6_scatter_28 : decode cX6_scatter 28 = .ok (.getfield 28, 3) := by decide +kernel
theorem dX6_scatter_31 : decode cX6_scatter 31 = .ok (.iconst 5, 1) := by decide +kernel
theorem dX6_scatter_32 : decode cX6_scatter 32 = .ok (.iload_n 1, 1) := by decide +kernel
theorem dX6_scatter_33 : decode cX6_scatter 33 = .ok (.imul, 1) := by decide +kernel
theorem dX6_scatter_34 : decode cX6_scatter 34 = .ok (.iload_n 2, 1) := by decide +kernel
theorem dX6_scatter_35 : decode cX6_scatter 35 = .ok (.iadd, 1) := by decide +kernel
theorem dX6_scatter_36 : decode cX6_scatter 36 = .ok (.iaload, 1) := by decide +kernel
theorem dX6_scatter_37 : decode cX6_scatter 37 = .ok (.istore 4, 2) := by decide +kernel
theorem dX6_scatter_39 : decode cX6_scatter 39 = .ok (.aload_n 0, 1) := by decide +kernel
theorem dX6_scatter_40 : decode cX6_scatter 40 = .ok (.getfield 31, 3) := by decide +kernel
theorem dX6_scatter_43 : decode cX6_scatter 43 = .ok (.iconst 5, 1) := by decide +kernel
theorem dX6_scatter_44 : decode cX6_scatter 44 = .ok (.iload_n 1, 1) := by decide +kernel
theorem dX6_scatter_45 : decode cX6_scatter 45 = .ok (.imul, 1) := by decide +kernel
theorem dX6_scatter_46 : decode cX6_scatter 46 = .ok (.iload_n 2, 1) := by decide +kernel
theorem dX6_scatter_47 : decode cX6_scatter 47 = .ok (.iadd, 1) := by decide +kernel
theorem dX6_scatter_48 : decode cX6_scatter 48 = .ok (.iaload, 1) := by decide +kernel
theorem dX6_scatter_49 : decode cX6_scatter 49 = .ok (.istore 5, 2) := by decide +kernel
theorem dX6_scatter_51 : decode cX6_scatter 51 = .ok (.iload_n 3, 1) := by decide +kernel
theorem dX6_scatter_52 : decode cX6_scatter 52 = .ok (.iconst 2, 1) := by decide +kernel
theorem dX6_scatter_53 : decode cX6_scatter 53 = .ok (.if_icmp .ne 6, 3) := by decide +kernel
theorem dX6_scatter_56 : decode cX6_scatter 56 = .ok (.iload 4, 2) := by decide +kernel
theorem dX6_scatter_58 : decode cX6_scatter 58 = .ok (.ireturn, 1) := by decide +kernel
theorem dX6_scatter_59 : decode cX6_scatter 59 = .ok (.iload 4, 2) := by decide +kernel
theorem dX6_scatter_61 : decode cX6_scatter 61 = .ok (.ifCond .ne 6, 3) := by decide +kernel
theorem dX6_scatter_64 : decode cX6_scatter 64 = .ok (.bipush (-2), 2) := by decide +kernel
theorem dX6_scatter_66 : decode cX6_scatter 66 = .ok (.ireturn, 1) := by decide +kernel
theorem dX6_scatter_67 : decode cX6_scatter 67 = .ok (.iload 5, 2) := by decide +kernel
theorem dX6_scatter_69 : decode cX6_scatter 69 = .ok (.istore 6, 2) := by decide +kernel
theorem dX6_scatter_71 : decode cX6_scatter 71 = .ok (.iload 4, 2) := by decide +kernel
theorem dX6_scatter_73 : decode cX6_scatter 73 = .ok (.istore 7, 2) := by decide +kernel
theorem dX6_scatter_75 : decode cX6_scatter 75 = .ok (.iload 7, 2) := by decide +kernel
theorem dX6_scatter_77 : decode cX6_scatter 77 = .ok (.ifCond .eq 21, 3) := by decide +kernel
theorem dX6_scatter_80 : decode cX6_scatter 80 = .ok (.iload 6, 2) := by decide +kernel
theorem dX6_scatter_82 : decode cX6_scatter 82 = .ok (.iload 7, 2) := by decide +kernel
theorem dX6_scatter_84 : decode cX6_scatter 84 = .ok (.irem, 1) := by decide +kernel
theorem dX6_scatter_85 : decode cX6_scatter 85 = .ok (.istore 8, 2) := by decide +kernel
theorem dX6_scatter_87 : decode cX6_scatter 87 = .ok (.iload 7, 2) := by decide +kernel
theorem dX6_scatter_89 : decode cX6_scatter 89 = .ok (.istore 6, 2) := by decide +kernel
theorem dX6_scatter_91 : decode cX6_scatter 91 = .ok (.iload 8, 2) := by decide +kernel
theorem dX6_scatter_93 : decode cX6_scatter 93 = .ok (.istore 7, 2) := by decide +kernel
theorem dX6_scatter_95 : decode cX6_scatter 95 = .ok (.goto (-20), 3) := by decide +kernel
theorem dX6_scatter_98 : decode cX6_scatter 98 = .ok (.iload_n 3, 1) := by decide +kernel
theorem dX6_scatter_99 : decode cX6_scatter 99 = .ok (.ifCond .ne 11, 3) := by decide +kernel
theorem dX6_scatter_102 : decode cX6_scatter 102 = .ok (.iload 5, 2) := by decide +kernel
theorem dX6_scatter_104 : decode cX6_scatter 104 = .ok (.iload 6, 2) := by decide +kernel
theorem dX6_scatter_106 : decode cX6_scatter 106 = .ok (.idiv, 1) := by decide +kernel
theorem dX6_scatter_107 : decode cX6_scatter 107 = .ok (.goto 8, 3) := by decide +kernel
theorem dX6_scatter_110 : decode cX6_scatter 110 = .ok (.iload 4, 2) := by decide +kernel
theorem dX6_scatter_112 : decode cX6_scatter 112 = .ok (.iload 6, 2) := by decide +kernel
theorem dX6_scatter_114 : decode cX6_scatter 114 = .ok (.idiv, 1) := by decide +kernel
theorem dX6_scatter_115 : decode cX6_scatter 115 = .ok (.ireturn, 1) := by decide +kernel
theorem dX6_keep_0 : decode cX6_keep 0 = .ok (.aload_n 0, 1) := by decide +kernel
theorem dX6_keep_1 : decode cX6_keep 1 = .ok (.getfield 205, 3) := by decide +kernel
theorem dX6_keep_4 : decode cX6_keep 4 = .ok (.iconst 3, 1) := by decide +kernel
theorem dX6_keep_5 : decode cX6_keep 5 = .ok (.if_icmp .ne 6, 3) := by decide +kernel
theorem dX6_keep_8 : decode cX6_keep 8 = .ok (.bipush (-3), 2) := by decide +kernel
theorem dX6_keep_10 : decode cX6_keep 10 = .ok (.ireturn, 1) := by decide +kernel
theorem dX6_keep_11 : decode cX6_keep 11 = .ok (.iconst 0, 1) := by decide +kernel
theorem dX6_keep_12 : decode cX6_keep 12 = .ok (.istore_n 1, 1) := by decide +kernel
theorem dX6_keep_13 : decode cX6_keep 13 = .ok (.iload_n 1, 1) := by decide +kernel
theorem dX6_keep_14 : decode cX6_keep 14 = .ok (.sipush 128, 3) := by decide +kernel
theorem dX6_keep_17 : decode cX6_keep 17 = .ok (.if_icmp .ge 30, 3) := by decide +kernel
theorem dX6_keep_20 : decode cX6_keep 20 = .ok (.aload_n 0, 1) := by decide +kernel
theorem dX6_keep_21 : decode cX6_keep 21 = .ok (.getfield 16, 3) := by decide +kernel
theorem dX6_keep_24 : decode cX6_keep 24 = .ok (.sipush 128, 3) := by decide +kernel
theorem dX6_keep_27 : decode cX6_keep 27 = .ok (.aload_n 0, 1) := by decide +kernel
theorem dX6_keep_28 : decode cX6_keep 28 = .ok (.getfield 205, 3) := by decide +kernel
theorem dX6_keep_31 : decode cX6_keep 31 = .ok (.imul, 1) := by decide +kernel
theorem dX6_keep_32 : decode cX6_keep 32 = .ok (.iload_n 1, 1) := by decide +kernel
theorem dX6_keep_33 : decode cX6_keep 33 = .ok (.iadd, 1) := by decide +kernel
theorem dX6_keep_34 : decode cX6_keep 34 = .ok (.aload_n 0, 1) := by decide +kernel
theorem dX6_keep_35 : decode cX6_keep 35 = .ok (.getfield 7, 3) := by decide +kernel
theorem dX6_keep_38 : decode cX6_keep 38 = .ok (.iload_n 1, 1) := by decide +kernel
theorem dX6_keep_39 : decode cX6_keep 39 = .ok (.iaload, 1) := by decide +kernel
theorem dX6_keep_40 : decode cX6_keep 40 = .ok (.iastore, 1) := by decide +kernel
theorem dX6_keep_41 : decode cX6_keep 41 = .ok (.iinc 1 1, 3) := by decide +kernel
theorem dX6_keep_44 : decode cX6_keep 44 = .ok (.goto (-31), 3) := by decide +kernel
theorem dX6_keep_47 : decode cX6_keep 47 = .ok (.aload_n 0, 1) := by decide +kernel
theorem dX6_keep_48 : decode cX6_keep 48 = .ok (.dup, 1) := by decide +kernel
theorem dX6_keep_49 : decode cX6_keep 49 = .ok (.getfield 205, 3) := by decide +kernel
theorem dX6_keep_52 : decode cX6_keep 52 = .ok (.iconst 1, 1) := by decide +kernel
theorem dX6_keep_53 : decode cX6_keep 53 = .ok (.iadd, 1) := by decide +kernel
theorem dX6_keep_54 : decode cX6_keep 54 = .ok (.putfield 205, 3) := by decide +kernel
theorem dX6_keep_57 : decode cX6_keep 57 = .ok (.aload_n 0, 1) := by decide +kernel
theorem dX6_keep_58 : decode cX6_keep 58 = .ok (.getfield 205, 3) := by decide +kernel
theorem dX6_keep_61 : decode cX6_keep 61 = .ok (.ireturn, 1) := by decide +kernel
theorem dX6_back_0 : decode cX6_back 0 = .ok (.aload_n 0, 1) := by decide +kernel
theorem dX6_back_1 : decode cX6_back 1 = .ok (.getfield 205, 3) := by decide +kernel
theorem dX6_back_4 : decode cX6_back 4 = .ok (.ifCond .ne 6, 3) := by decide +kernel
theorem dX6_back_7 : decode cX6_back 7 = .ok (.bipush (-2), 2) := by decide +kernel
theorem dX6_back_9 : decode cX6_back 9 = .ok (.ireturn, 1) := by decide +kernel
theorem dX6_back_10 : decode cX6_back 10 = .ok (.aload_n 0, 1) := by decide +kernel
theorem dX6_back_11 : decode cX6_back 11 = .ok (.dup, 1) := by decide +kernel
theorem dX6_back_12 : decode cX6_back 12 = .ok (.getfield 205, 3) := by decide +kernel
theorem dX6_back_15 : decode cX6_back 15 = .ok (.iconst 1, 1) := by decide +kernel
theorem dX6_back_16 : decode cX6_back 16 = .ok (.isub, 1) := by decide +kernel
theorem dX6_back_17 : decode cX6_back 17 = .ok (.putfield 205, 3) := by decide +kernel
theorem dX6_back_20 : decode cX6_back 20 = .ok (.iconst 0, 1) := by decide +kernel
theorem dX6_back_21 : decode cX6_back 21 = .ok (.istore_n 1, 1) := by decide +kernel
theorem dX6_back_22 : decode cX6_back 22 = .ok (.iload_n 1, 1) := by decide +kernel
theorem dX6_back_23 : decode cX6_back 23 = .ok (.sipush 128, 3) := by decide +kernel
theorem dX6_back_26 : decode cX6_back 26 = .ok (.if_icmp .ge 30, 3) := by decide +kernel
theorem dX6_back_29 : decode cX6_back 29 = .ok (.aload_n 0, 1) := by decide +kernel
theorem dX6_back_30 : decode cX6_back 30 = .ok (.getfield 7, 3) := by decide +kernel
theorem dX6_back_33 : decode cX6_back 33 = .ok (.iload_n 1, 1) := by decide +kernel
theorem dX6_back_34 : decode cX6_back 34 = .ok (.aload_n 0, 1) := by decide +kernel
theorem dX6_back_35 : decode cX6_back 35 = .ok (.getfield 16, 3) := by decide +kernel
theorem dX6_back_38 : decode cX6_back 38 = .ok (.sipush 128, 3) := by decide +kernel
theorem dX6_back_41 : decode cX6_back 41 = .ok (.aload_n 0, 1) := by decide +kernel
theorem dX6_back_42 : decode cX6_back 42 = .ok (.getfield 205, 3) := by decide +kernel
theorem dX6_back_45 : decode cX6_back 45 = .ok (.imul, 1) := by decide +kernel
theorem dX6_back_46 : decode cX6_back 46 = .ok (.iload_n 1, 1) := by decide +kernel
theorem dX6_back_47 : decode cX6_back 47 = .ok (.iadd, 1) := by decide +kernel
theorem dX6_back_48 : decode cX6_back 48 = .ok (.iaload, 1) := by decide +kernel
theorem dX6_back_49 : decode cX6_back 49 = .ok (.iastore, 1) := by decide +kernel
theorem dX6_back_50 : decode cX6_back 50 = .ok (.iinc 1 1, 3) := by decide +kernel
theorem dX6_back_53 : decode cX6_back 53 = .ok (.goto (-31), 3) := by decide +kernel
theorem dX6_back_56 : decode cX6_back 56 = .ok (.aload_n 0, 1) := by decide +kernel
theorem dX6_back_57 : decode cX6_back 57 = .ok (.getfield 205, 3) := by decide +kernel
theorem dX6_back_60 : decode cX6_back 60 = .ok (.ireturn, 1) := by decide +kernel
theorem dX6_count_0 : decode cX6_count 0 = .ok (.iload_n 1, 1) := by decide +kernel
theorem dX6_count_1 : decode cX6_count 1 = .ok (.iconst 3, 1) := by decide +kernel
theorem dX6_count_2 : decode cX6_count 2 = .ok (.if_icmp .eq 8, 3) := by decide +kernel
theorem dX6_count_5 : decode cX6_count 5 = .ok (.iload_n 1, 1) := by decide +kernel
theorem dX6_count_6 : decode cX6_count 6 = .ok (.iconst 4, 1) := by decide +kernel
theorem dX6_count_7 : decode cX6_count 7 = .ok (.if_icmp .ne 20, 3) := by decide +kernel
theorem dX6_count_10 : decode cX6_count 10 = .ok (.iload_n 1, 1) := by decide +kernel
theorem dX6_count_11 : decode cX6_count 11 = .ok (.iconst 3, 1) := by decide +kernel
theorem dX6_count_12 : decode cX6_count 12 = .ok (.if_icmp .ne 10, 3) := by decide +kernel
theorem dX6_count_15 : decode cX6_count 15 = .ok (.aload_n 0, 1) := by decide +kernel
theorem dX6_count_16 : decode cX6_count 16 = .ok (.getfield 196, 3) := by decide +kernel
theorem dX6_count_19 : decode cX6_count 19 = .ok (.goto 7, 3) := by decide +kernel
theorem dX6_count_22 : decode cX6_count 22 = .ok (.aload_n 0, 1) := by decide +kernel
theorem dX6_count_23 : decode cX6_count 23 = .ok (.getfield 205, 3) := by decide +kernel
theorem dX6_count_26 : decode cX6_count 26 = .ok (.ireturn, 1) := by decide +kernel
theorem dX6_count_27 : decode cX6_count 27 = .ok (.iload_n 1, 1) := by decide +kernel
theorem dX6_count_28 : decode cX6_count 28 = .ok (.iconst 0, 1) := by decide +kernel
theorem dX6_count_29 : decode cX6_count 29 = .ok (.iconst 5, 1) := by decide +kernel
theorem dX6_count_30 : decode cX6_count 30 = .ok (.invokestatic 109, 3) := by decide +kernel
theorem dX6_count_33 : decode cX6_count 33 = .ok (.ifCond .ne 5, 3) := by decide +kernel
theorem dX6_count_36 : decode cX6_count 36 = .ok (.iconst (-1), 1) := by decide +kernel
theorem dX6_count_37 : decode cX6_count 37 = .ok (.ireturn, 1) := by decide +kernel
theorem dX6_count_38 : decode cX6_count 38 = .ok (.iconst 0, 1) := by decide +kernel
theorem dX6_count_39 : decode cX6_count 39 = .ok (.istore_n 2, 1) := by decide +kernel
theorem dX6_count_40 : decode cX6_count 40 = .ok (.iconst 0, 1) := by decide +kernel
theorem dX6_count_41 : decode cX6_count 41 = .ok (.istore_n 3, 1) := by decide +kernel
theorem dX6_count_42 : decode cX6_count 42 = .ok (.iload_n 3, 1) := by decide +kernel
theorem dX6_count_43 : decode cX6_count 43 = .ok (.bipush 16, 2) := by decide +kernel
theorem dX6_count_45 : decode cX6_count 45 = .ok (.if_icmp .ge 56, 3) := by decide +kernel
theorem dX6_count_48 : decode cX6_count 48 = .ok (.iload_n 2, 1) := by decide +kernel
theorem dX6_count_49 : decode cX6_count 49 = .ok (.iload_n 1, 1) := by decide +kernel
theorem dX6_count_50 : decode cX6_count 50 = .ok (.iconst 3, 1) := by decide +kernel
theorem dX6_count_51 : decode cX6_count 51 = .ok (.if_icmp .ge 20, 3) := by decide +kernel
theorem dX6_count_54 : decode cX6_count 54 = .ok (.aload_n 0, 1) := by decide +kernel
theorem dX6_count_55 : decode cX6_count 55 = .ok (.iload_n 3, 1) := by decide +kernel
theorem dX6_count_56 : decode cX6_count 56 = .ok (.invokevirtual 45, 3) := by decide +kernel
theorem dX6_count_59 : decode cX6_count 59 = .ok (.iload_n 1, 1) := by decide +kernel
theorem dX6_count_60 : decode cX6_count 60 = .ok (.if_icmp .ne 7, 3) := by decide +kernel
theorem dX6_count_63 : decode cX6_count 63 = .ok (.iconst 1, 1) := by decide +kernel
theorem dX6_count_64 : decode cX6_count 64 = .ok (.goto 29, 3) := by decide +kernel
theorem dX6_count_67 : decode cX6_count 67 = .ok (.iconst 0, 1) := by decide +kernel
theorem dX6_count_68 : decode cX6_count 68 = .ok (.goto 25, 3) := by decide +kernel
theorem dX6_count_71 : decode cX6_count 71 = .ok (.aload_n 0, 1) := by decide +kernel
theorem dX6_count_72 : decode cX6_count 72 = .ok (.iload_n 3, 1) := by decide +kernel
theorem dX6_count_73 : decode cX6_count 73 = .ok (.invokevirtual 45, 3) := by decide +kernel
theorem dX6_count_76 : decode cX6_count 76 = .ok (.iconst 1, 1) := by decide +kernel
theorem dX6_count_77 : decode cX6_count 77 = .ok (.if_icmp .ne 15, 3) := by decide +kernel
theorem dX6_count_80 : decode cX6_count 80 = .ok (.aload_n 0, 1) := by decide +kernel
theorem dX6_count_81 : decode cX6_count 81 = .ok (.iload_n 3, 1) := by decide +kernel
theorem dX6_count_82 : decode cX6_count 82 = .ok (.invokevirtual 81, 3) := by decide +kernel
theorem dX6_count_85 : decode cX6_count 85 = .ok (.ifCond .ne 7, 3) := by decide +kernel
theorem dX6_count_88 : decode cX6_count 88 = .ok (.iconst 1, 1) := by decide +kernel
theorem dX6_count_89 : decode cX6_count 89 = .ok (.goto 4, 3) := by decide +kernel
theorem dX6_count_92 : decode cX6_count 92 = .ok (.iconst 0, 1) := by decide +kernel
theorem dX6_count_93 : decode cX6_count 93 = .ok (.iadd, 1) := by decide +kernel
theorem dX6_count_94 : decode cX6_count 94 = .ok (.istore_n 2, 1) := by decide +kernel
theorem dX6_count_95 : decode cX6_count 95 = .ok (.iinc 3 1, 3) := by decide +kernel
theorem dX6_count_98 : decode cX6_count 98 = .ok (.goto (-56), 3) := by decide +kernel
theorem dX6_count_101 : decode cX6_count 101 = .ok (.iload_n 2, 1) := by decide +kernel
theorem dX6_count_102 : decode cX6_count 102 = .ok (.ireturn, 1) := by decide +kernel
end
section
theorem dL_law_0 : decode cL_law 0 = .ok (.new 7, 3) := by decide +kernel
theorem dL_law_3 : decode cL_law 3 = .ok (.dup, 1) := by decide +kernel
theorem dL_law_4 : decode cL_law 4 = .ok (.invokespecial 9, 3) := by decide +kernel
theorem dL_law_7 : decode cL_law 7 = .ok (.astore_n 1, 1) := by decide +kernel
theorem dL_law_8 : decode cL_law 8 = .ok (.new 10, 3) := by decide +kernel
theorem dL_law_11 : decode cL_law 11 = .ok (.dup, 1) := by decide +kernel
theorem dL_law_12 : decode cL_law 12 = .ok (.invokespecial 12, 3) := by decide +kernel
theorem dL_law_15 : decode cL_law 15 = .ok (.astore_n 2, 1) := by decide +kernel
theorem dL_law_16 : decode cL_law 16 = .ok (.iconst 0, 1) := by decide +kernel
theorem dL_law_17 : decode cL_law 17 = .ok (.istore_n 3, 1) := by decide +kernel
theorem dL_law_18 : decode cL_law 18 = .ok (.iload_n 3, 1) := by decide +kernel
theorem dL_law_19 : decode cL_law 19 = .ok (.aload_n 0, 1) := by decide +kernel
theorem dL_law_20 : decode cL_law 20 = .ok (.arraylength, 1) := by decide +kernel
theorem dL_law_21 : decode cL_law 21 = .ok (.bipush 8, 2) := by decide +kernel
theorem dL_law_23 : decode cL_law 23 = .ok (.isub, 1) := by decide +kernel
theorem dL_law_24 : decode cL_law 24 = .ok (.if_icmp .gt 775, 3) := by decide +kernel
theorem dL_law_27 : decode cL_law 27 = .ok (.aload_n 0, 1) := by decide +kernel
theorem dL_law_28 : decode cL_law 28 = .ok (.iload_n 3, 1) := by decide +kernel
theorem dL_law_29 : decode cL_law 29 = .ok (.iaload, 1) := by decide +kernel
theorem dL_law_30 : decode cL_law 30 = .ok (.bipush 31, 2) := by decide +kernel
theorem dL_law_32 : decode cL_law 32 = .ok (.iand, 1) := by decide +kernel
theorem dL_law_33 : decode cL_law 33 = .ok (.tableswitch 760 0 22 #[107, 120, 153, 176, 219, 252, 295, 318, 341, 364, 387, 410, 443, 476, 489, 532, 545, 558, 581, 668, 711, 724, 737], 107) := by decide +kernel
theorem dL_law_140 : decode cL_law 140 = .ok (.aload_n 1, 1) := by decide +kernel
theorem dL_law_141 : decode cL_law 141 = .ok (.invokevirtual 13, 3) := by decide +kernel
theorem dL_law_144 : decode cL_law 144 = .ok (.aload_n 2, 1) := by decide +kernel
theorem dL_law_145 : decode cL_law 145 = .ok (.invokevirtual 17, 3) := by decide +kernel
theorem dL_law_148 : decode cL_law 148 = .ok (.if_icmp .eq 645, 3) := by decide +kernel
theorem dL_law_151 : decode cL_law 151 = .ok (.iconst 0, 1) := by decide +kernel
theorem dL_law_152 : decode cL_law 152 = .ok (.ireturn, 1) := by decide +kernel
theorem dL_law_153 : decode cL_law 153 = .ok (.aload_n 1, 1) := by decide +kernel
theorem dL_law_154 : decode cL_law 154 = .ok (.aload_n 0, 1) := by decide +kernel
theorem dL_law_155 : decode cL_law 155 = .ok (.iload_n 3, 1) := by decide +kernel
theorem dL_law_156 : decode cL_law 156 = .ok (.iconst 1, 1) := by decide +kernel
theorem dL_law_157 : decode cL_law 157 = .ok (.iadd, 1) := by decide +kernel
theorem dL_law_158 : decode cL_law 158 = .ok (.iaload, 1) := by decide +kernel
theorem dL_law_159 : decode cL_law 159 = .ok (.aload_n 0, 1) := by decide +kernel
theorem dL_law_160 : decode cL_law 160 = .ok (.iload_n 3, 1) := by decide +kernel
theorem dL_law_161 : decode cL_law 161 = .ok (.iconst 2, 1) := by decide +kernel
theorem dL_law_162 : decode cL_law 162 = .ok (.iadd, 1) := by decide +kernel
theorem dL_law_163 : decode cL_law 163 = .ok (.iaload, 1) := by decide +kernel
theorem dL_law_164 : decode cL_law 164 = .ok (.invokevirtual 18, 3) := by decide +kernel
theorem dL_law_167 : decode cL_law 167 = .ok (.aload_n 2, 1) := by decide +kernel
theorem dL_law_168 : decode cL_law 168 = .ok (.aload_n 0, 1) := by decide +kernel
theorem dL_law_169 : decode cL_law 169 = .ok (.iload_n 3, 1) := by decide +kernel
theorem dL_law_170 : decode cL_law 170 = .ok (.iconst 1, 1) := by decide +kernel
theorem dL_law_171 : decode cL_law 171 = .ok (.iadd, 1) := by decide +kernel
theorem dL_law_172 : decode cL_law 172 = .ok (.iaload, 1) := by decide +kernel
theorem dL_law_173 : decode cL_law 173 = .ok (.aload_n 0, 1) := by decide +kernel
theorem dL_law_174 : decode cL_law 174 = .ok (.iload_n 3, 1) := by decide +kernel
theorem dL_law_175 : decode cL_law 175 = .ok (.iconst 2, 1) := by decide +kernel
theorem dL_law_176 : decode cL_law 176 = .ok (.iadd, 1) := by decide +kernel
theorem dL_law_177 : decode cL_law 177 = .ok (.iaload, 1) := by decide +kernel
theorem dL_law_178 : decode cL_law 178 = .ok (.invokevirtual 22, 3) := by decide +kernel
theorem dL_law_181 : decode cL_law 181 = .ok (.if_icmp .eq 612, 3) := by decide +kernel
theorem dL_law_184 : decode cL_law 184 = .ok (.iconst 0, 1) := by decide +kernel
theorem dL_law_185 : decode cL_law 185 = .ok (.ireturn, 1) := by decide +kernel
theorem dL_law_186 : decode cL_law 186 = .ok (.aload_n 1, 1) := by decide +kernel
theorem dL_law_187 : decode cL_law 187 = .ok (.aload_n 0, 1) := by decide +kernel
theorem dL_law_188 : decode cL_law 188 = .ok (.iload_n 3, 1) := by decide +kernel
theorem dL_law_189 : decode cL_law 189 = .ok (.iconst 1, 1) := by decide +kernel
theorem dL_law_190 : decode cL_law 190 = .ok (.iadd, 1) := by decide +kernel
theorem dL_law_191 : decode cL_law 191 = .ok (.iaload, 1) := by decide +kernel
theorem dL_law_192 : decode cL_law 192 = .ok (.invokevirtual 23, 3) := by decide +kernel
theorem dL_law_195 : decode cL_law 195 = .ok (.aload_n 2, 1) := by decide +kernel
theorem dL_law_196 : decode cL_law 196 = .ok (.aload_n 0, 1) := by decide +kernel
theorem dL_law_197 : decode cL_law 197 = .ok (.iload_n 3, 1) := by decide +kernel
theorem dL_law_198 : decode cL_law 198 = .ok (.iconst 1, 1) := by decide +kernel
theorem dL_law_199 : decode cL_law 199 = .ok (.iadd, 1) := by decide +kernel
theorem dL_law_200 : decode cL_law 200 = .ok (.iaload, 1) := by decide +kernel
theorem dL_law_201 : decode cL_law 201 = .ok (.invokevirtual 27, 3) := by decide +kernel
theorem dL_law_204 : decode cL_law 204 = .ok (.if_icmp .eq 589, 3) := by decide +kernel
theorem dL_law_207 : decode cL_law 207 = .ok (.iconst 0, 1) := by decide +kernel
theorem dL_law_208 : decode cL_law 208 = .ok (.ireturn, 1) := by decide +kernel
theorem dL_law_209 : decode cL_law 209 = .ok (.aload_n 1, 1) := by decide +kernel
theorem dL_law_210 : decode cL_law 210 = .ok (.aload_n 0, 1) := by decide +kernel
theorem dL_law_211 : decode cL_law 211 = .ok (.iload_n 3, 1) := by decide +kernel
theorem dL_law_212 : decode cL_law 212 = .ok (.iconst 1, 1) := by decide +kernel
theorem dL_law_213 : decode cL_law 213 = .ok (.iadd, 1) := by decide +kernel
theorem dL_law_214 : decode cL_law 214 = .ok (.iaload, 1) := by decide +kernel
theorem dL_law_215 : decode cL_law 215 = .ok (.aload_n 0, 1) := by decide +kernel
theorem dL_law_216 : decode cL_law 216 = .ok (.iload_n 3, 1) := by decide +kernel
theorem dL_law_217 : decode cL_law 217 = .ok (.iconst 2, 1) := by decide +kernel
theorem dL_law_218 : decode cL_law 218 = .ok (.iadd, 1) := by decide +kernel
theorem dL_law_219 : decode cL_law 219 = .ok (.iaload, 1) := by decide +kernel
theorem dL_law_220 : decode cL_law 220 = .ok (.aload_n 0, 1) := by decide +kernel
theorem dL_law_221 : decode cL_law 221 = .ok (.iload_n 3, 1) := by decide +kernel
theorem dL_law_222 : decode cL_law 222 = .ok (.iconst 3, 1) := by decide +kernel
theorem dL_law_223 : decode cL_law 223 = .ok (.iadd, 1) := by decide +kernel
theorem dL_law_224 : decode cL_law 224 = .ok (.iaload, 1) := by decide +kernel
theorem dL_law_225 : decode cL_law 225 = .ok (.invokevirtual 28, 3) := by decide +kernel
theorem dL_law_228 : decode cL_law 228 = .ok (.aload_n 2, 1) := by decide +kernel
theorem dL_law_229 : decode cL_law 229 = .ok (.aload_n 0, 1) := by decide +kernel
theorem dL_law_230 : decode cL_law 230 = .ok (.iload_n 3, 1) := by decide +kernel
theorem dL_law_231 : decode cL_law 231 = .ok (.iconst 1, 1) := by decide +kernel
theorem dL_law_232 : decode cL_law 232 = .ok (.iadd, 1) := by decide +kernel
theorem dL_law_233 : decode cL_law 233 = .ok (.iaload, 1) := by decide +kernel
theorem dL_law_234 : decode cL_law 234 = .ok (.aload_n 0, 1) := by decide +kernel
theorem dL_law_235 : decode cL_law 235 = .ok (.iload_n 3, 1) := by decide +kernel
theorem dL_law_236 : decode cL_law 236 = .ok (.iconst 2, 1) := by decide +kernel
theorem dL_law_237 : decode cL_law 237 = .ok (.iadd, 1) := by decide +kernel
theorem dL_law_238 : decode cL_law 238 = .ok (.iaload, 1) := by decide +kernel
theorem dL_law_239 : decode cL_law 239 = .ok (.aload_n 0, 1) := by decide +kernel
theorem dL_law_240 : decode cL_law 240 = .ok (.iload_n 3, 1) := by decide +kernel
theorem dL_law_241 : decode cL_law 241 = .ok (.iconst 3, 1) := by decide +kernel
theorem dL_law_242 : decode cL_law 242 = .ok (.iadd, 1) := by decide +kernel
theorem dL_law_243 : decode cL_law 243 = .ok (.iaload, 1) := by decide +kernel
theorem dL_law_244 : decode cL_law 244 = .ok (.invokevirtual 32, 3) := by decide +kernel
theorem dL_law_247 : decode cL_law 247 = .ok (.if_icmp .eq 546, 3) := by decide +kernel
theorem dL_law_250 : decode cL_law 250 = .ok (.iconst 0, 1) := by decide +kernel
theorem dL_law_251 : decode cL_law 251 = .ok (.ireturn, 1) := by decide +kernel
theorem dL_law_252 : decode cL_law 252 = .ok (.aload_n 1, 1) := by decide +kernel
theorem dL_law_253 : decode cL_law 253 = .ok (.aload_n 0, 1) := by decide +kernel
theorem dL_law_254 : decode cL_law 254 = .ok (.iload_n 3, 1) := by decide +kernel
theorem dL_law_255 : decode cL_law 255 = .ok (.iconst 1, 1) := by decide +kernel
theorem dL_law_256 : decode cL_law 256 = .ok (.iadd, 1) := by decide +kernel
theorem dL_law_257 : decode cL_law 257 = .ok (.iaload, 1) := by decide +kernel
theorem dL_law_258 : decode cL_law 258 = .ok (.aload_n 0, 1) := by decide +kernel
theorem dL_law_259 : decode cL_law 259 = .ok (.iload_n 3, 1) := by decide +kernel
theorem dL_law_260 : decode cL_law 260 = .ok (.iconst 2, 1) := by decide +kernel
theorem dL_law_261 : decode cL_law 261 = .ok (.iadd, 1) := by decide +kernel
theorem dL_law_262 : decode cL_law 262 = .ok (.iaload, 1) := by decide +kernel
theorem dL_law_263 : decode cL_law 263 = .ok (.invokevirtual 33, 3) := by decide +kernel
theorem dL_law_266 : decode cL_law 266 = .ok (.aload_n 2, 1) := by decide +kernel
theorem dL_law_267 : decode cL_law 267 = .ok (.aload_n 0, 1) := by decide +kernel
theorem dL_law_268 : decode cL_law 268 = .ok (.iload_n 3, 1) := by decide +kernel
theorem dL_law_269 : decode cL_law 269 = .ok (.iconst 1, 1) := by decide +kernel
theorem dL_law_270 : decode cL_law 270 = .ok (.iadd, 1) := by decide +kernel
theorem dL_law_271 : decode cL_law 271 = .ok (.iaload, 1) := by decide +kernel
theorem dL_law_272 : decode cL_law 272 = .ok (.aload_n 0, 1) := by decide +kernel
theorem dL_law_273 : decode cL_law 273 = .ok (.iload_n 3, 1) := by decide +kernel
theorem dL_law_274 : decode cL_law 274 = .ok (.iconst 2, 1) := by decide +kernel
theorem dL_law_275 : decode cL_law 275 = .ok (.iadd, 1) := by decide +kernel
theorem dL_law_276 : decode cL_law 276 = .ok (.iaload, 1) := by decide +kernel
theorem dL_law_277 : decode cL_law 277 = .ok (.invokevirtual 36, 3) := by decide +kernel
theorem dL_law_280 : decode cL_law 280 = .ok (.if_icmp .eq 513, 3) := by decide +kernel
theorem dL_law_283 : decode cL_law 283 = .ok (.iconst 0, 1) := by decide +kernel
theorem dL_law_284 : decode cL_law 284 = .ok (.ireturn, 1) := by decide +kernel
theorem dL_law_285 : decode cL_law 285 = .ok (.aload_n 1, 1) := by decide +kernel
theorem dL_law_286 : decode cL_law 286 = .ok (.aload_n 0, 1) := by decide +kernel
theorem dL_law_287 : decode cL_law 287 = .ok (.iload_n 3, 1) := by decide +kernel
theorem dL_law_288 : decode cL_law 288 = .ok (.iconst 1, 1) := by decide +kernel
theorem dL_law_289 : decode cL_law 289 = .ok (.iadd, 1) := by decide +kernel
theorem dL_law_290 : decode cL_law 290 = .ok (.iaload, 1) := by decide +kernel
theorem dL_law_291 : decode cL_law 291 = .ok (.aload_n 0, 1) := by decide +kernel
theorem dL_law_292 : decode cL_law 292 = .ok (.iload_n 3, 1) := by decide +kernel
theorem dL_law_293 : decode cL_law 293 = .ok (.iconst 2, 1) := by decide +kernel
theorem dL_law_294 : decode cL_law 294 = .ok (.iadd, 1) := by decide +kernel
theorem dL_law_295 : decode cL_law 295 = .ok (.iaload, 1) := by decide +kernel
theorem dL_law_296 : decode cL_law 296 = .ok (.aload_n 0, 1) := by decide +kernel
theorem dL_law_297 : decode cL_law 297 = .ok (.iload_n 3, 1) := by decide +kernel
theorem dL_law_298 : decode cL_law 298 = .ok (.iconst 3, 1) := by decide +kernel
theorem dL_law_299 : decode cL_law 299 = .ok (.iadd, 1) := by decide +kernel
theorem dL_law_300 : decode cL_law 300 = .ok (.iaload, 1) := by decide +kernel
theorem dL_law_301 : decode cL_law 301 = .ok (.invokevirtual 37, 3) := by decide +kernel
theorem dL_law_304 : decode cL_law 304 = .ok (.aload_n 2, 1) := by decide +kernel
theorem dL_law_305 : decode cL_law 305 = .ok (.aload_n 0, 1) := by decide +kernel
theorem dL_law_306 : decode cL_law 306 = .ok (.iload_n 3, 1) := by decide +kernel
theorem dL_law_307 : decode cL_law 307 = .ok (.iconst 1, 1) := by decide +kernel
theorem dL_law_308 : decode cL_law 308 = .ok (.iadd, 1) := by decide +kernel
theorem dL_law_309 : decode cL_law 309 = .ok (.iaload, 1) := by decide +kernel
theorem dL_law_310 : decode cL_law 310 = .ok (.aload_n 0, 1) := by decide +kernel
theorem dL_law_311 : decode cL_law 311 = .ok (.iload_n 3, 1) := by decide +kernel
theorem dL_law_312 : decode cL_law 312 = .ok (.iconst 2, 1) := by decide +kernel
theorem dL_law_313 : decode cL_law 313 = .ok (.iadd, 1) := by decide +kernel
theorem dL_law_314 : decode cL_law 314 = .ok (.iaload, 1) := by decide +kernel
theorem dL_law_315 : decode cL_law 315 = .ok (.aload_n 0, 1) := by decide +kernel
theorem dL_law_316 : decode cL_law 316 = .ok (.iload_n 3, 1) := by decide +kernel
theorem dL_law_317 : decode cL_law 317 = .ok (.iconst 3, 1) := by decide +kernel
theorem dL_law_318 : decode cL_law 318 = .ok (.iadd, 1) := by decide +kernel
theorem dL_law_319 : decode cL_law 319 = .ok (.iaload, 1) := by decide +kernel
theorem dL_law_320 : decode cL_law 320 = .ok (.invokevirtual 40, 3) := by decide +kernel
theorem dL_law_323 : decode cL_law 323 = .ok (.if_icmp .eq 470, 3) := by decide +kernel
theorem dL_law_326 : decode cL_law 326 = .ok (.iconst 0, 1) := by decide +kernel
theorem dL_law_327 : decode cL_law 327 = .ok (.ireturn, 1) := by decide +kernel
theorem dL_law_328 : decode cL_law 328 = .ok (.aload_n 1, 1) := by decide +kernel
theorem dL_law_329 : decode cL_law 329 = .ok (.aload_n 0, 1) := by decide +kernel
theorem dL_law_330 : decode cL_law 330 = .ok (.iload_n 3, 1) := by decide +kernel
theorem dL_law_331 : decode cL_law 331 = .ok (.iconst 1, 1) := by decide +kernel
theorem dL_law_332 : decode cL_law 332 = .ok (.iadd, 1) := by decide +kernel
theorem dL_law_333 : decode cL_law 333 = .ok (.iaload, 1) := by decide +kernel
theorem dL_law_334 : decode cL_law 334 = .ok (.invokevirtual 41, 3) := by decide +kernel
theorem dL_law_337 : decode cL_law 337 = .ok (.aload_n 2, 1) := by decide +kernel
theorem dL_law_338 : decode cL_law 338 = .ok (.aload_n 0, 1) := by decide +kernel
theorem dL_law_339 : decode cL_law 339 = .ok (.iload_n 3, 1) := by decide +kernel
theorem dL_law_340 : decode cL_law 340 = .ok (.iconst 1, 1) := by decide +kernel
theorem dL_law_341 : decode cL_law 341 = .ok (.iadd, 1) := by decide +kernel
theorem dL_law_342 : decode cL_law 342 = .ok (.iaload, 1) := by decide +kernel
theorem dL_law_343 : decode cL_law 343 = .ok (.invokevirtual 44, 3) := by decide +kernel
theorem dL_law_346 : decode cL_law 346 = .ok (.if_icmp .eq 447, 3) := by decide +kernel
theorem dL_law_349 : decode cL_law 349 = .ok (.iconst 0, 1) := by decide +kernel
theorem dL_law_350 : decode cL_law 350 = .ok (.ireturn, 1) := by decide +kernel
theorem dL_law_351 : decode cL_law 351 = .ok (.aload_n 1, 1) := by decide +kernel
theorem dL_law_352 : decode cL_law 352 = .ok (.aload_n 0, 1) := by decide +kernel
theorem dL_law_353 : decode cL_law 353 = .ok (.iload_n 3, 1) := by decide +kernel
theorem dL_law_354 : decode cL_law 354 = .ok (.iconst 1, 1) := by decide +kernel
theorem dL_law_355 : decode cL_law 355 = .ok (.iadd, 1) := by decide +kernel
theorem dL_law_356 : decode cL_law 356 = .ok (.iaload, 1) := by decide +kernel
theorem dL_law_357 : decode cL_law 357 = .ok (.invokevirtual 45, 3) := by decide +kernel
theorem dL_law_360 : decode cL_law 360 = .ok (.aload_n 2, 1) := by decide +kernel
theorem dL_law_361 : decode cL_law 361 = .ok (.aload_n 0, 1) := by decide +kernel
theorem dL_law_362 : decode cL_law 362 = .ok (.iload_n 3, 1) := by decide +kernel
theorem dL_law_363 : decode cL_law 363 = .ok (.iconst 1, 1) := by decide +kernel
theorem dL_law_364 : decode cL_law 364 = .ok (.iadd, 1) := by decide +kernel
theorem dL_law_365 : decode cL_law 365 = .ok (.iaload, 1) := by decide +kernel
theorem dL_law_366 : decode cL_law 366 = .ok (.invokevirtual 48, 3) := by decide +kernel
theorem dL_law_369 : decode cL_law 369 = .ok (.if_icmp .eq 424, 3) := by decide +kernel
theorem dL_law_372 : decode cL_law 372 = .ok (.iconst 0, 1) := by decide +kernel
theorem dL_law_373 : decode cL_law 373 = .ok (.ireturn, 1) := by decide +kernel
theorem dL_law_374 : decode cL_law 374 = .ok (.aload_n 1, 1) := by decide +kernel
theorem dL_law_375 : decode cL_law 375 = .ok (.aload_n 0, 1) := by decide +kernel
theorem dL_law_376 : decode cL_law 376 = .ok (.iload_n 3, 1) := by decide +kernel
theorem dL_law_377 : decode cL_law 377 = .ok (.iconst 1, 1) := by decide +kernel
theorem dL_law_378 : decode cL_law 378 = .ok (.iadd, 1) := by decide +kernel
theorem dL_law_379 : decode cL_law 379 = .ok (.iaload, 1) := by decide +kernel
theorem dL_law_380 : decode cL_law 380 = .ok (.invokevirtual 49, 3) := by decide +kernel
theorem dL_law_383 : decode cL_law 383 = .ok (.aload_n 2, 1) := by decide +kernel
theorem dL_law_384 : decode cL_law 384 = .ok (.aload_n 0, 1) := by decide +kernel
theorem dL_law_385 : decode cL_law 385 = .ok (.iload_n 3, 1) := by decide +kernel
theorem dL_law_386 : decode cL_law 386 = .ok (.iconst 1, 1) := by decide +kernel
theorem dL_law_387 : decode cL_law 387 = .ok (.iadd, 1) := by decide +kernel
theorem dL_law_388 : decode cL_law 388 = .ok (.iaload, 1) := by decide +kernel
theorem dL_law_389 : decode cL_law 389 = .ok (.invokevirtual 52, 3) := by decide +kernel
theorem dL_law_392 : decode cL_law 392 = .ok (.if_icmp .eq 401, 3) := by decide +kernel
theorem dL_law_395 : decode cL_law 395 = .ok (.iconst 0, 1) := by decide +kernel
theorem dL_law_396 : decode cL_law 396 = .ok (.ireturn, 1) := by decide +kernel
theorem dL_law_397 : decode cL_law 397 = .ok (.aload_n 1, 1) := by decide +kernel
theorem dL_law_398 : decode cL_law 398 = .ok (.aload_n 0, 1) := by decide +kernel
theorem dL_law_399 : decode cL_law 399 = .ok (.iload_n 3, 1) := by decide +kernel
theorem dL_law_400 : decode cL_law 400 = .ok (.iconst 1, 1) := by decide +kernel
theorem dL_law_401 : decode cL_law 401 = .ok (.iadd, 1) := by decide +kernel
theorem dL_law_402 : decode cL_law 402 = .ok (.iaload, 1) := by decide +kernel
theorem dL_law_403 : decode cL_law 403 = .ok (.invokevirtual 53, 3) := by decide +kernel
theorem dL_law_406 : decode cL_law 406 = .ok (.aload_n 2, 1) := by decide +kernel
theorem dL_law_407 : decode cL_law 407 = .ok (.aload_n 0, 1) := by decide +kernel
theorem dL_law_408 : decode cL_law 408 = .ok (.iload_n 3, 1) := by decide +kernel
theorem dL_law_409 : decode cL_law 409 = .ok (.iconst 1, 1) := by decide +kernel
theorem dL_law_410 : decode cL_law 410 = .ok (.iadd, 1) := by decide +kernel
theorem dL_law_411 : decode cL_law 411 = .ok (.iaload, 1) := by decide +kernel
theorem dL_law_412 : decode cL_law 412 = .ok (.invokevirtual 56, 3) := by decide +kernel
theorem dL_law_415 : decode cL_law 415 = .ok (.if_icmp .eq 378, 3) := by decide +kernel
theorem dL_law_418 : decode cL_law 418 = .ok (.iconst 0, 1) := by decide +kernel
theorem dL_law_419 : decode cL_law 419 = .ok (.ireturn, 1) := by decide +kernel
theorem dL_law_420 : decode cL_law 420 = .ok (.aload_n 1, 1) := by decide +kernel
theorem dL_law_421 : decode cL_law 421 = .ok (.aload_n 0, 1) := by decide +kernel
theorem dL_law_422 : decode cL_law 422 = .ok (.iload_n 3, 1) := by decide +kernel
theorem dL_law_423 : decode cL_law 423 = .ok (.iconst 1, 1) := by decide +kernel
theorem dL_law_424 : decode cL_law 424 = .ok (.iadd, 1) := by decide +kernel
theorem dL_law_425 : decode cL_law 425 = .ok (.iaload, 1) := by decide +kernel
theorem dL_law_426 : decode cL_law 426 = .ok (.invokevirtual 57, 3) := by decide +kernel
theorem dL_law_429 : decode cL_law 429 = .ok (.aload_n 2, 1) := by decide +kernel
theorem dL_law_430 : decode cL_law 430 = .ok (.aload_n 0, 1) := by decide +kernel
theorem dL_law_431 : decode cL_law 431 = .ok (.iload_n 3, 1) := by decide +kernel
theorem dL_law_432 : decode cL_law 432 = .ok (.iconst 1, 1) := by decide +kernel
theorem dL_law_433 : decode cL_law 433 = .ok (.iadd, 1) := by decide +kernel
theorem dL_law_434 : decode cL_law 434 = .ok (.iaload, 1) := by decide +kernel
theorem dL_law_435 : decode cL_law 435 = .ok (.invokevirtual 60, 3) := by decide +kernel
theorem dL_law_438 : decode cL_law 438 = .ok (.if_icmp .eq 355, 3) := by decide +kernel
theorem dL_law_441 : decode cL_law 441 = .ok (.iconst 0, 1) := by decide +kernel
theorem dL_law_442 : decode cL_law 442 = .ok (.ireturn, 1) := by decide +kernel
theorem dL_law_443 : decode cL_law 443 = .ok (.aload_n 1, 1) := by decide +kernel
theorem dL_law_444 : decode cL_law 444 = .ok (.aload_n 0, 1) := by decide +kernel
theorem dL_law_445 : decode cL_law 445 = .ok (.iload_n 3, 1) := by decide +kernel
theorem dL_law_446 : decode cL_law 446 = .ok (.iconst 1, 1) := by decide +kernel
theorem dL_law_447 : decode cL_law 447 = .ok (.iadd, 1) := by decide +kernel
theorem dL_law_448 : decode cL_law 448 = .ok (.iaload, 1) := by decide +kernel
theorem dL_law_449 : decode cL_law 449 = .ok (.aload_n 0, 1) := by decide +kernel
theorem dL_law_450 : decode cL_law 450 = .ok (.iload_n 3, 1) := by decide +kernel
theorem dL_law_451 : decode cL_law 451 = .ok (.iconst 2, 1) := by decide +kernel
theorem dL_law_452 : decode cL_law 452 = .ok (.iadd, 1) := by decide +kernel
theorem dL_law_453 : decode cL_law 453 = .ok (.iaload, 1) := by decide +kernel
theorem dL_law_454 : decode cL_law 454 = .ok (.invokevirtual 61, 3) := by decide +kernel
theorem dL_law_457 : decode cL_law 457 = .ok (.aload_n 2, 1) := by decide +kernel
theorem dL_law_458 : decode cL_law 458 = .ok (.aload_n 0, 1) := by decide +kernel
theorem dL_law_459 : decode cL_law 459 = .ok (.iload_n 3, 1) := by decide +kernel
theorem dL_law_460 : decode cL_law 460 = .ok (.iconst 1, 1) := by decide +kernel
theorem dL_law_461 : decode cL_law 461 = .ok (.iadd, 1) := by decide +kernel
theorem dL_law_462 : decode cL_law 462 = .ok (.iaload, 1) := by decide +kernel
theorem dL_law_463 : decode cL_law 463 = .ok (.aload_n 0, 1) := by decide +kernel
theorem dL_law_464 : decode cL_law 464 = .ok (.iload_n 3, 1) := by decide +kernel
theorem dL_law_465 : decode cL_law 465 = .ok (.iconst 2, 1) := by decide +kernel
theorem dL_law_466 : decode cL_law 466 = .ok (.iadd, 1) := by decide +kernel
theorem dL_law_467 : decode cL_law 467 = .ok (.iaload, 1) := by decide +kernel
theorem dL_law_468 : decode cL_law 468 = .ok (.invokevirtual 64, 3) := by decide +kernel
theorem dL_law_471 : decode cL_law 471 = .ok (.if_icmp .eq 322, 3) := by decide +kernel
theorem dL_law_474 : decode cL_law 474 = .ok (.iconst 0, 1) := by decide +kernel
theorem dL_law_475 : decode cL_law 475 = .ok (.ireturn, 1) := by decide +kernel
theorem dL_law_476 : decode cL_law 476 = .ok (.aload_n 1, 1) := by decide +kernel
theorem dL_law_477 : decode cL_law 477 = .ok (.aload_n 0, 1) := by decide +kernel
theorem dL_law_478 : decode cL_law 478 = .ok (.iload_n 3, 1) := by decide +kernel
theorem dL_law_479 : decode cL_law 479 = .ok (.iconst 1, 1) := by decide +kernel
theorem dL_law_480 : decode cL_law 480 = .ok (.iadd, 1) := by decide +kernel
theorem dL_law_481 : decode cL_law 481 = .ok (.iaload, 1) := by decide +kernel
theorem dL_law_482 : decode cL_law 482 = .ok (.aload_n 0, 1) := by decide +kernel
theorem dL_law_483 : decode cL_law 483 = .ok (.iload_n 3, 1) := by decide +kernel
theorem dL_law_484 : decode cL_law 484 = .ok (.iconst 2, 1) := by decide +kernel
theorem dL_law_485 : decode cL_law 485 = .ok (.iadd, 1) := by decide +kernel
theorem dL_law_486 : decode cL_law 486 = .ok (.iaload, 1) := by decide +kernel
theorem dL_law_487 : decode cL_law 487 = .ok (.invokevirtual 65, 3) := by decide +kernel
theorem dL_law_490 : decode cL_law 490 = .ok (.aload_n 2, 1) := by decide +kernel
theorem dL_law_491 : decode cL_law 491 = .ok (.aload_n 0, 1) := by decide +kernel
theorem dL_law_492 : decode cL_law 492 = .ok (.iload_n 3, 1) := by decide +kernel
theorem dL_law_493 : decode cL_law 493 = .ok (.iconst 1, 1) := by decide +kernel
theorem dL_law_494 : decode cL_law 494 = .ok (.iadd, 1) := by decide +kernel
theorem dL_law_495 : decode cL_law 495 = .ok (.iaload, 1) := by decide +kernel
theorem dL_law_496 : decode cL_law 496 = .ok (.aload_n 0, 1) := by decide +kernel
theorem dL_law_497 : decode cL_law 497 = .ok (.iload_n 3, 1) := by decide +kernel
theorem dL_law_498 : decode cL_law 498 = .ok (.iconst 2, 1) := by decide +kernel
theorem dL_law_499 : decode cL_law 499 = .ok (.iadd, 1) := by decide +kernel
theorem dL_law_500 : decode cL_law 500 = .ok (.iaload, 1) := by decide +kernel
theorem dL_law_501 : decode cL_law 501 = .ok (.invokevirtual 68, 3) := by decide +kernel
theorem dL_law_504 : decode cL_law 504 = .ok (.if_icmp .eq 289, 3) := by decide +kernel
theorem dL_law_507 : decode cL_law 507 = .ok (.iconst 0, 1) := by decide +kernel
theorem dL_law_508 : decode cL_law 508 = .ok (.ireturn, 1) := by decide +kernel
theorem dL_law_509 : decode cL_law 509 = .ok (.aload_n 1, 1) := by decide +kernel
theorem dL_law_510 : decode cL_law 510 = .ok (.invokevirtual 69, 3) := by decide +kernel
theorem dL_law_513 : decode cL_law 513 = .ok (.aload_n 2, 1) := by decide +kernel
theorem dL_law_514 : decode cL_law 514 = .ok (.invokevirtual 72, 3) := by decide +kernel
theorem dL_law_517 : decode cL_law 517 = .ok (.if_icmp .eq 276, 3) := by decide +kernel
theorem dL_law_520 : decode cL_law 520 = .ok (.iconst 0, 1) := by decide +kernel
theorem dL_law_521 : decode cL_law 521 = .ok (.ireturn, 1) := by decide +kernel
theorem dL_law_522 : decode cL_law 522 = .ok (.aload_n 1, 1) := by decide +kernel
theorem dL_law_523 : decode cL_law 523 = .ok (.aload_n 0, 1) := by decide +kernel
theorem dL_law_524 : decode cL_law 524 = .ok (.iload_n 3, 1) := by decide +kernel
theorem dL_law_525 : decode cL_law 525 = .ok (.iconst 1, 1) := by decide +kernel
theorem dL_law_526 : decode cL_law 526 = .ok (.iadd, 1) := by decide +kernel
theorem dL_law_527 : decode cL_law 527 = .ok (.iaload, 1) := by decide +kernel
theorem dL_law_528 : decode cL_law 528 = .ok (.aload_n 0, 1) := by decide +kernel
theorem dL_law_529 : decode cL_law 529 = .ok (.iload_n 3, 1) := by decide +kernel
theorem dL_law_530 : decode cL_law 530 = .ok (.iconst 2, 1) := by decide +kernel
theorem dL_law_531 : decode cL_law 531 = .ok (.iadd, 1) := by decide +kernel
theorem dL_law_532 : decode cL_law 532 = .ok (.iaload, 1) := by decide +kernel
theorem dL_law_533 : decode cL_law 533 = .ok (.aload_n 0, 1) := by decide +kernel
theorem dL_law_534 : decode cL_law 534 = .ok (.iload_n 3, 1) := by decide +kernel
theorem dL_law_535 : decode cL_law 535 = .ok (.iconst 3, 1) := by decide +kernel
theorem dL_law_536 : decode cL_law 536 = .ok (.iadd, 1) := by decide +kernel
theorem dL_law_537 : decode cL_law 537 = .ok (.iaload, 1) := by decide +kernel
theorem dL_law_538 : decode cL_law 538 = .ok (.invokevirtual 73, 3) := by decide +kernel
theorem dL_law_541 : decode cL_law 541 = .ok (.aload_n 2, 1) := by decide +kernel
theorem dL_law_542 : decode cL_law 542 = .ok (.aload_n 0, 1) := by decide +kernel
theorem dL_law_543 : decode cL_law 543 = .ok (.iload_n 3, 1) := by decide +kernel
theorem dL_law_544 : decode cL_law 544 = .ok (.iconst 1, 1) := by decide +kernel
theorem dL_law_545 : decode cL_law 545 = .ok (.iadd, 1) := by decide +kernel
theorem dL_law_546 : decode cL_law 546 = .ok (.iaload, 1) := by decide +kernel
theorem dL_law_547 : decode cL_law 547 = .ok (.aload_n 0, 1) := by decide +kernel
theorem dL_law_548 : decode cL_law 548 = .ok (.iload_n 3, 1) := by decide +kernel
theorem dL_law_549 : decode cL_law 549 = .ok (.iconst 2, 1) := by decide +kernel
theorem dL_law_550 : decode cL_law 550 = .ok (.iadd, 1) := by decide +kernel
theorem dL_law_551 : decode cL_law 551 = .ok (.iaload, 1) := by decide +kernel
theorem dL_law_552 : decode cL_law 552 = .ok (.aload_n 0, 1) := by decide +kernel
theorem dL_law_553 : decode cL_law 553 = .ok (.iload_n 3, 1) := by decide +kernel
theorem dL_law_554 : decode cL_law 554 = .ok (.iconst 3, 1) := by decide +kernel
theorem dL_law_555 : decode cL_law 555 = .ok (.iadd, 1) := by decide +kernel
theorem dL_law_556 : decode cL_law 556 = .ok (.iaload, 1) := by decide +kernel
theorem dL_law_557 : decode cL_law 557 = .ok (.invokevirtual 76, 3) := by decide +kernel
theorem dL_law_560 : decode cL_law 560 = .ok (.if_icmp .eq 233, 3) := by decide +kernel
theorem dL_law_563 : decode cL_law 563 = .ok (.iconst 0, 1) := by decide +kernel
theorem dL_law_564 : decode cL_law 564 = .ok (.ireturn, 1) := by decide +kernel
theorem dL_law_565 : decode cL_law 565 = .ok (.aload_n 1, 1) := by decide +kernel
theorem dL_law_566 : decode cL_law 566 = .ok (.invokevirtual 77, 3) := by decide +kernel
theorem dL_law_569 : decode cL_law 569 = .ok (.aload_n 2, 1) := by decide +kernel
theorem dL_law_570 : decode cL_law 570 = .ok (.invokevirtual 80, 3) := by decide +kernel
theorem dL_law_573 : decode cL_law 573 = .ok (.if_icmp .eq 220, 3) := by decide +kernel
theorem dL_law_576 : decode cL_law 576 = .ok (.iconst 0, 1) := by decide +kernel
theorem dL_law_577 : decode cL_law 577 = .ok (.ireturn, 1) := by decide +kernel
theorem dL_law_578 : decode cL_law 578 = .ok (.aload_n 1, 1) := by decide +kernel
theorem dL_law_579 : decode cL_law 579 = .ok (.invokevirtual 81, 3) := by decide +kernel
theorem dL_law_582 : decode cL_law 582 = .ok (.aload_n 2, 1) := by decide +kernel
theorem dL_law_583 : decode cL_law 583 = .ok (.invokevirtual 84, 3) := by decide +kernel
theorem dL_law_586 : decode cL_law 586 = .ok (.if_icmp .eq 207, 3) := by decide +kernel
theorem dL_law_589 : decode cL_law 589 = .ok (.iconst 0, 1) := by decide +kernel
theorem dL_law_590 : decode cL_law 590 = .ok (.ireturn, 1) := by decide +kernel
theorem dL_law_591 : decode cL_law 591 = .ok (.aload_n 1, 1) := by decide +kernel
theorem dL_law_592 : decode cL_law 592 = .ok (.aload_n 0, 1) := by decide +kernel
theorem dL_law_593 : decode cL_law 593 = .ok (.iload_n 3, 1) := by decide +kernel
theorem dL_law_594 : decode cL_law 594 = .ok (.iconst 1, 1) := by decide +kernel
theorem dL_law_595 : decode cL_law 595 = .ok (.iadd, 1) := by decide +kernel
theorem dL_law_596 : decode cL_law 596 = .ok (.iaload, 1) := by decide +kernel
theorem dL_law_597 : decode cL_law 597 = .ok (.invokevirtual 85, 3) := by decide +kernel
theorem dL_law_600 : decode cL_law 600 = .ok (.aload_n 2, 1) := by decide +kernel
theorem dL_law_601 : decode cL_law 601 = .ok (.aload_n 0, 1) := by decide +kernel
theorem dL_law_602 : decode cL_law 602 = .ok (.iload_n 3, 1) := by decide +kernel
theorem dL_law_603 : decode cL_law 603 = .ok (.iconst 1, 1) := by decide +kernel
theorem dL_law_604 : decode cL_law 604 = .ok (.iadd, 1) := by decide +kernel
theorem dL_law_605 : decode cL_law 605 = .ok (.iaload, 1) := by decide +kernel
theorem dL_law_606 : decode cL_law 606 = .ok (.invokevirtual 88, 3) := by decide +kernel
theorem dL_law_609 : decode cL_law 609 = .ok (.if_icmp .eq 184, 3) := by decide +kernel
theorem dL_law_612 : decode cL_law 612 = .ok (.iconst 0, 1) := by decide +kernel
theorem dL_law_613 : decode cL_law 613 = .ok (.ireturn, 1) := by decide +kernel
theorem dL_law_614 : decode cL_law 614 = .ok (.aload_n 1, 1) := by decide +kernel
theorem dL_law_615 : decode cL_law 615 = .ok (.aload_n 0, 1) := by decide +kernel
theorem dL_law_616 : decode cL_law 616 = .ok (.iload_n 3, 1) := by decide +kernel
theorem dL_law_617 : decode cL_law 617 = .ok (.iconst 1, 1) := by decide +kernel
theorem dL_law_618 : decode cL_law 618 = .ok (.iadd, 1) := by decide +kernel
theorem dL_law_619 : decode cL_law 619 = .ok (.iaload, 1) := by decide +kernel
theorem dL_law_620 : decode cL_law 620 = .ok (.aload_n 0, 1) := by decide +kernel
theorem dL_law_621 : decode cL_law 621 = .ok (.iload_n 3, 1) := by decide +kernel
theorem dL_law_622 : decode cL_law 622 = .ok (.iconst 2, 1) := by decide +kernel
theorem dL_law_623 : decode cL_law 623 = .ok (.iadd, 1) := by decide +kernel
theorem dL_law_624 : decode cL_law 624 = .ok (.iaload, 1) := by decide +kernel
theorem dL_law_625 : decode cL_law 625 = .ok (.aload_n 0, 1) := by decide +kernel
theorem dL_law_626 : decode cL_law 626 = .ok (.iload_n 3, 1) := by decide +kernel
theorem dL_law_627 : decode cL_law 627 = .ok (.iconst 3, 1) := by decide +kernel
theorem dL_law_628 : decode cL_law 628 = .ok (.iadd, 1) := by decide +kernel
theorem dL_law_629 : decode cL_law 629 = .ok (.iaload, 1) := by decide +kernel
theorem dL_law_630 : decode cL_law 630 = .ok (.aload_n 0, 1) := by decide +kernel
theorem dL_law_631 : decode cL_law 631 = .ok (.iload_n 3, 1) := by decide +kernel
theorem dL_law_632 : decode cL_law 632 = .ok (.iconst 4, 1) := by decide +kernel
theorem dL_law_633 : decode cL_law 633 = .ok (.iadd, 1) := by decide +kernel
theorem dL_law_634 : decode cL_law 634 = .ok (.iaload, 1) := by decide +kernel
theorem dL_law_635 : decode cL_law 635 = .ok (.aload_n 0, 1) := by decide +kernel
theorem dL_law_636 : decode cL_law 636 = .ok (.iload_n 3, 1) := by decide +kernel
theorem dL_law_637 : decode cL_law 637 = .ok (.iconst 5, 1) := by decide +kernel
theorem dL_law_638 : decode cL_law 638 = .ok (.iadd, 1) := by decide +kernel
theorem dL_law_639 : decode cL_law 639 = .ok (.iaload, 1) := by decide +kernel
theorem dL_law_640 : decode cL_law 640 = .ok (.aload_n 0, 1) := by decide +kernel
theorem dL_law_641 : decode cL_law 641 = .ok (.iload_n 3, 1) := by decide +kernel
theorem dL_law_642 : decode cL_law 642 = .ok (.bipush 6, 2) := by decide +kernel
theorem dL_law_644 : decode cL_law 644 = .ok (.iadd, 1) := by decide +kernel
theorem dL_law_645 : decode cL_law 645 = .ok (.iaload, 1) := by decide +kernel
theorem dL_law_646 : decode cL_law 646 = .ok (.aload_n 0, 1) := by decide +kernel
theorem dL_law_647 : decode cL_law 647 = .ok (.iload_n 3, 1) := by decide +kernel
theorem dL_law_648 : decode cL_law 648 = .ok (.bipush 7, 2) := by decide +kernel
theorem dL_law_650 : decode cL_law 650 = .ok (.iadd, 1) := by decide +kernel
theorem dL_law_651 : decode cL_law 651 = .ok (.iaload, 1) := by decide +kernel
theorem dL_law_652 : decode cL_law 652 = .ok (.invokevirtual 89, 3) := by decide +kernel
theorem dL_law_655 : decode cL_law 655 = .ok (.aload_n 2, 1) := by decide +kernel
theorem dL_law_656 : decode cL_law 656 = .ok (.aload_n 0, 1) := by decide +kernel
theorem dL_law_657 : decode cL_law 657 = .ok (.iload_n 3, 1) := by decide +kernel
theorem dL_law_658 : decode cL_law 658 = .ok (.iconst 1, 1) := by decide +kernel
theorem dL_law_659 : decode cL_law 659 = .ok (.iadd, 1) := by decide +kernel
theorem dL_law_660 : decode cL_law 660 = .ok (.iaload, 1) := by decide +kernel
theorem dL_law_661 : decode cL_law 661 = .ok (.aload_n 0, 1) := by decide +kernel
theorem dL_law_662 : decode cL_law 662 = .ok (.iload_n 3, 1) := by decide +kernel
theorem dL_law_663 : decode cL_law 663 = .ok (.iconst 2, 1) := by decide +kernel
theorem dL_law_664 : decode cL_law 664 = .ok (.iadd, 1) := by decide +kernel
theorem dL_law_665 : decode cL_law 665 = .ok (.iaload, 1) := by decide +kernel
theorem dL_law_666 : decode cL_law 666 = .ok (.aload_n 0, 1) := by decide +kernel
theorem dL_law_667 : decode cL_law 667 = .ok (.iload_n 3, 1) := by decide +kernel
theorem dL_law_668 : decode cL_law 668 = .ok (.iconst 3, 1) := by decide +kernel
theorem dL_law_669 : decode cL_law 669 = .ok (.iadd, 1) := by decide +kernel
theorem dL_law_670 : decode cL_law 670 = .ok (.iaload, 1) := by decide +kernel
theorem dL_law_671 : decode cL_law 671 = .ok (.aload_n 0, 1) := by decide +kernel
theorem dL_law_672 : decode cL_law 672 = .ok (.iload_n 3, 1) := by decide +kernel
theorem dL_law_673 : decode cL_law 673 = .ok (.iconst 4, 1) := by decide +kernel
theorem dL_law_674 : decode cL_law 674 = .ok (.iadd, 1) := by decide +kernel
theorem dL_law_675 : decode cL_law 675 = .ok (.iaload, 1) := by decide +kernel
theorem dL_law_676 : decode cL_law 676 = .ok (.aload_n 0, 1) := by decide +kernel
theorem dL_law_677 : decode cL_law 677 = .ok (.iload_n 3, 1) := by decide +kernel
theorem dL_law_678 : decode cL_law 678 = .ok (.iconst 5, 1) := by decide +kernel
theorem dL_law_679 : decode cL_law 679 = .ok (.iadd, 1) := by decide +kernel
theorem dL_law_680 : decode cL_law 680 = .ok (.iaload, 1) := by decide +kernel
theorem dL_law_681 : decode cL_law 681 = .ok (.aload_n 0, 1) := by decide +kernel
theorem dL_law_682 : decode cL_law 682 = .ok (.iload_n 3, 1) := by decide +kernel
theorem dL_law_683 : decode cL_law 683 = .ok (.bipush 6, 2) := by decide +kernel
theorem dL_law_685 : decode cL_law 685 = .ok (.iadd, 1) := by decide +kernel
theorem dL_law_686 : decode cL_law 686 = .ok (.iaload, 1) := by decide +kernel
theorem dL_law_687 : decode cL_law 687 = .ok (.aload_n 0, 1) := by decide +kernel
theorem dL_law_688 : decode cL_law 688 = .ok (.iload_n 3, 1) := by decide +kernel
theorem dL_law_689 : decode cL_law 689 = .ok (.bipush 7, 2) := by decide +kernel
theorem dL_law_691 : decode cL_law 691 = .ok (.iadd, 1) := by decide +kernel
theorem dL_law_692 : decode cL_law 692 = .ok (.iaload, 1) := by decide +kernel
theorem dL_law_693 : decode cL_law 693 = .ok (.invokevirtual 93, 3) := by decide +kernel
theorem dL_law_696 : decode cL_law 696 = .ok (.if_icmp .eq 97, 3) := by decide +kernel
theorem dL_law_699 : decode cL_law 699 = .ok (.iconst 0, 1) := by decide +kernel
theorem dL_law_700 : decode cL_law 700 = .ok (.ireturn, 1) := by decide +kernel
theorem dL_law_701 : decode cL_law 701 = .ok (.aload_n 1, 1) := by decide +kernel
theorem dL_law_702 : decode cL_law 702 = .ok (.aload_n 0, 1) := by decide +kernel
theorem dL_law_703 : decode cL_law 703 = .ok (.iload_n 3, 1) := by decide +kernel
theorem dL_law_704 : decode cL_law 704 = .ok (.iconst 1, 1) := by decide +kernel
theorem dL_law_705 : decode cL_law 705 = .ok (.iadd, 1) := by decide +kernel
theorem dL_law_706 : decode cL_law 706 = .ok (.iaload, 1) := by decide +kernel
theorem dL_law_707 : decode cL_law 707 = .ok (.aload_n 0, 1) := by decide +kernel
theorem dL_law_708 : decode cL_law 708 = .ok (.iload_n 3, 1) := by decide +kernel
theorem dL_law_709 : decode cL_law 709 = .ok (.iconst 2, 1) := by decide +kernel
theorem dL_law_710 : decode cL_law 710 = .ok (.iadd, 1) := by decide +kernel
theorem dL_law_711 : decode cL_law 711 = .ok (.iaload, 1) := by decide +kernel
theorem dL_law_712 : decode cL_law 712 = .ok (.aload_n 0, 1) := by decide +kernel
theorem dL_law_713 : decode cL_law 713 = .ok (.iload_n 3, 1) := by decide +kernel
theorem dL_law_714 : decode cL_law 714 = .ok (.iconst 3, 1) := by decide +kernel
theorem dL_law_715 : decode cL_law 715 = .ok (.iadd, 1) := by decide +kernel
theorem dL_law_716 : decode cL_law 716 = .ok (.iaload, 1) := by decide +kernel
theorem dL_law_717 : decode cL_law 717 = .ok (.invokevirtual 94, 3) := by decide +kernel
theorem dL_law_720 : decode cL_law 720 = .ok (.aload_n 2, 1) := by decide +kernel
theorem dL_law_721 : decode cL_law 721 = .ok (.aload_n 0, 1) := by decide +kernel
theorem dL_law_722 : decode cL_law 722 = .ok (.iload_n 3, 1) := by decide +kernel
theorem dL_law_723 : decode cL_law 723 = .ok (.iconst 1, 1) := by decide +kernel
theorem dL_law_724 : decode cL_law 724 = .ok (.iadd, 1) := by decide +kernel
theorem dL_law_725 : decode cL_law 725 = .ok (.iaload, 1) := by decide +kernel
theorem dL_law_726 : decode cL_law 726 = .ok (.aload_n 0, 1) := by decide +kernel
theorem dL_law_727 : decode cL_law 727 = .ok (.iload_n 3, 1) := by decide +kernel
theorem dL_law_728 : decode cL_law 728 = .ok (.iconst 2, 1) := by decide +kernel
theorem dL_law_729 : decode cL_law 729 = .ok (.iadd, 1) := by decide +kernel
theorem dL_law_730 : decode cL_law 730 = .ok (.iaload, 1) := by decide +kernel
theorem dL_law_731 : decode cL_law 731 = .ok (.aload_n 0, 1) := by decide +kernel
theorem dL_law_732 : decode cL_law 732 = .ok (.iload_n 3, 1) := by decide +kernel
theorem dL_law_733 : decode cL_law 733 = .ok (.iconst 3, 1) := by decide +kernel
theorem dL_law_734 : decode cL_law 734 = .ok (.iadd, 1) := by decide +kernel
theorem dL_law_735 : decode cL_law 735 = .ok (.iaload, 1) := by decide +kernel
theorem dL_law_736 : decode cL_law 736 = .ok (.invokevirtual 97, 3) := by decide +kernel
theorem dL_law_739 : decode cL_law 739 = .ok (.if_icmp .eq 54, 3) := by decide +kernel
theorem dL_law_742 : decode cL_law 742 = .ok (.iconst 0, 1) := by decide +kernel
theorem dL_law_743 : decode cL_law 743 = .ok (.ireturn, 1) := by decide +kernel
theorem dL_law_744 : decode cL_law 744 = .ok (.aload_n 1, 1) := by decide +kernel
theorem dL_law_745 : decode cL_law 745 = .ok (.invokevirtual 98, 3) := by decide +kernel
theorem dL_law_748 : decode cL_law 748 = .ok (.aload_n 2, 1) := by decide +kernel
theorem dL_law_749 : decode cL_law 749 = .ok (.invokevirtual 101, 3) := by decide +kernel
theorem dL_law_752 : decode cL_law 752 = .ok (.if_icmp .eq 41, 3) := by decide +kernel
theorem dL_law_755 : decode cL_law 755 = .ok (.iconst 0, 1) := by decide +kernel
theorem dL_law_756 : decode cL_law 756 = .ok (.ireturn, 1) := by decide +kernel
theorem dL_law_757 : decode cL_law 757 = .ok (.aload_n 1, 1) := by decide +kernel
theorem dL_law_758 : decode cL_law 758 = .ok (.invokevirtual 102, 3) := by decide +kernel
theorem dL_law_761 : decode cL_law 761 = .ok (.aload_n 2, 1) := by decide +kernel
theorem dL_law_762 : decode cL_law 762 = .ok (.invokevirtual 105, 3) := by decide +kernel
theorem dL_law_765 : decode cL_law 765 = .ok (.if_icmp .eq 28, 3) := by decide +kernel
theorem dL_law_768 : decode cL_law 768 = .ok (.iconst 0, 1) := by decide +kernel
theorem dL_law_769 : decode cL_law 769 = .ok (.ireturn, 1) := by decide +kernel
theorem dL_law_770 : decode cL_law 770 = .ok (.aload_n 1, 1) := by decide +kernel
theorem dL_law_771 : decode cL_law 771 = .ok (.aload_n 0, 1) := by decide +kernel
theorem dL_law_772 : decode cL_law 772 = .ok (.iload_n 3, 1) := by decide +kernel
theorem dL_law_773 : decode cL_law 773 = .ok (.iconst 1, 1) := by decide +kernel
theorem dL_law_774 : decode cL_law 774 = .ok (.iadd, 1) := by decide +kernel
theorem dL_law_775 : decode cL_law 775 = .ok (.iaload, 1) := by decide +kernel
theorem dL_law_776 : decode cL_law 776 = .ok (.invokevirtual 106, 3) := by decide +kernel
theorem dL_law_779 : decode cL_law 779 = .ok (.aload_n 2, 1) := by decide +kernel
theorem dL_law_780 : decode cL_law 780 = .ok (.aload_n 0, 1) := by decide +kernel
theorem dL_law_781 : decode cL_law 781 = .ok (.iload_n 3, 1) := by decide +kernel
theorem dL_law_782 : decode cL_law 782 = .ok (.iconst 1, 1) := by decide +kernel
theorem dL_law_783 : decode cL_law 783 = .ok (.iadd, 1) := by decide +kernel
theorem dL_law_784 : decode cL_law 784 = .ok (.iaload, 1) := by decide +kernel
theorem dL_law_785 : decode cL_law 785 = .ok (.invokevirtual 109, 3) := by decide +kernel
theorem dL_law_788 : decode cL_law 788 = .ok (.if_icmp .eq 5, 3) := by decide +kernel
theorem dL_law_791 : decode cL_law 791 = .ok (.iconst 0, 1) := by decide +kernel
theorem dL_law_792 : decode cL_law 792 = .ok (.ireturn, 1) := by decide +kernel
theorem dL_law_793 : decode cL_law 793 = .ok (.iinc 3 8, 3) := by decide +kernel
theorem dL_law_796 : decode cL_law 796 = .ok (.goto (-778), 3) := by decide +kernel
theorem dL_law_799 : decode cL_law 799 = .ok (.iconst 1, 1) := by decide +kernel
theorem dL_law_800 : decode cL_law 800 = .ok (.ireturn, 1) := by decide +kernel
end
section
/-! ===== the layer: one judgement jG for a frame of ours; the heap of ours is a list of cells from E.1 on ===== -/
abbrev jE : Type := Nat × va_G × ClassId × ClassId × Nat × Nat × Nat
abbrev jX : Type := Program × Launch × Env × Room × State × MethodId × Array Value × List Frame × Method × Code × (State → Prop)
abbrev jP (x : jX) : Program := x.1
abbrev jL (x : jX) : Launch := x.2.1
abbrev jEn (x : jX) : Env := x.2.2.1
abbrev jR (x : jX) : Room := x.2.2.2.1
abbrev jS (x : jX) : State := x.2.2.2.2.1
abbrev jM (x : jX) : MethodId := x.2.2.2.2.2.1
abbrev jA (x : jX) : Array Value := x.2.2.2.2.2.2.1
abbrev jB (x : jX) : List Frame := x.2.2.2.2.2.2.2.1
abbrev jMe (x : jX) : Method := x.2.2.2.2.2.2.2.2.1
abbrev jC (x : jX) : Code := x.2.2.2.2.2.2.2.2.2.1
abbrev jQ (x : jX) : State → Prop := x.2.2.2.2.2.2.2.2.2.2
/-- the tables' words that last -/
def jTB : List Cond := lw_tbl.filter goodWord
def jnest (w : Cond) : Bool := match w with
  | .fieldLinkNest _ _ _ _ _ _ => true
  | .methodLinkNest _ _ _ _ => true
  | _ => false
/-- the words on nest mates -/
def jNW : List Cond := lw_tbl.filter jnest
theorem jTB_good : ∀ w ∈ jTB, (w.onTables && w.keeps) = true ∨ ∃ ty, w = .arrayClass ty := fun w h => good_of_word (List.mem_filter.mp h).2
theorem jNW_warm {s U : State} (hW : s.WarmedH U.vm) (h : ∀ w ∈ jNW, va_Nw w s) : ∀ w ∈ jNW, va_Nw w U := by
  intro w hw
  have h1 := h w hw
  have h2 := (List.mem_filter.mp hw).2
  cases w with
  | fieldLinkNest a i b n d hh => exact va_Nw.warmF hW h1
  | methodLinkNest a i y hh => exact va_Nw.warmM hW h1
  | _ => simp [jnest] at h2
theorem jNW_same {u U : State} (hu : u.vm = U.vm) (h : ∀ w ∈ jNW, va_Nw w u) : ∀ w ∈ jNW, va_Nw w U := by
  intro w hw
  have h1 := h w hw
  have h2 := (List.mem_filter.mp hw).2
  cases w with
  | fieldLinkNest a i b n d hh => exact va_Nw.same rfl hu h1
  | methodLinkNest a i y hh => exact va_Nw.same rfl hu h1
  | _ => simp [jnest] at h2
theorem jNW_of {A : Array Value} {U : State} (h : ∀ w ∈ lw_tbl, w.before A U = true) : ∀ w ∈ jNW, va_Nw w U := by
  intro w hw
  have h1 := h w (List.mem_filter.mp hw).1
  have h2 := (List.mem_filter.mp hw).2
  cases w with
  | fieldLinkNest a i b n d hh => exact va_Nw.of rfl h1
  | methodLinkNest a i y hh => exact va_Nw.of rfl h1
  | _ => simp [jnest] at h2
/-- the cells of ours, at their addresses -/
def jw (b : Nat) (h : List va_E) : va_W := h.mapIdx (fun i e => (b + i, e))
theorem jw_at (b : Nat) (h : List va_E) (i : Nat) : (jw b h)[i]? = (h[i]?).map (fun e => (b + i, e)) := by
  simp [jw]
theorem jw_get {b : Nat} {h : List va_E} {i : Nat} {e : va_E} (he : h[i]? = some e) : (jw b h)[i]? = some (b + i, e) := by
  rw [jw_at, he]; rfl
theorem jw_set (b : Nat) (h : List va_E) (i : Nat) (e : va_E) : (jw b h).set i (b + i, e) = jw b (h.set i e) := by
  apply List.ext_getElem?
  intro j
  rw [jw_at, List.getElem?_set, List.getElem?_set]
  by_cases hj : i = j
  · subst hj
    simp only [if_true]
    by_cases hl : i < h.length
    · simp [jw, hl]
    · simp [jw, hl]
  · simp only [hj, if_false]
    rw [jw_at]
theorem jw_push (b : Nat) (h : List va_E) (e : va_E) : jw b h ++ [(b + h.length, e)] = jw b (h ++ [e]) := by
  simp [jw, List.mapIdx_append]
def jb (E : jE) : Nat → Prop := fun q => E.1 ≤ q
theorem jw_D (E : jE) (h : List va_E) : va_D (jb E) (jw E.1 h) := by
  have key : ∀ (k : Nat) (q : Nat × va_E), (jw E.1 h)[k]? = some q → q.1 = E.1 + k := by
    intro k q hq
    rw [jw_at] at hq
    cases hk : h[k]? with
    | none => rw [hk] at hq; cases hq
    | some e => rw [hk] at hq; cases hq; rfl
  refine ⟨fun i j p q hp hq e => ?_, fun k q hq => ?_⟩
  · have h1 := key i p hp
    have h2 := key j q hq
    omega
  · have h1 := key k q hq
    show E.1 ≤ q.1
    omega
def jtys (E : jE) : List (ClassId × FieldType) := [(E.2.2.1, .int), (E.2.2.2.1, .object "JumpDiscs$Game")]
def jtabX (j : Nat) : Int32 := if j = 1 ∨ j = 2 then 40 else 0
def jtabY (j : Nat) : Int32 := if j = 2 ∨ j = 3 then 40 else 0
def jtabP (j : Nat) : Int32 := if j = 0 then 48 else if j = 1 then 24 else if j = 2 then 12 else 0
def jSt (E : jE) (U : State) (H : Heap) : Prop :=
  (va_Z "JumpDiscs" "BASE_X" "[I" (.ref E.2.2.2.2.1) (jb E) U H ∧ va_T .int E.2.2.2.2.1 4 (fun j => .int (jtabX j)) (jb E) U H) ∧
  (va_Z "JumpDiscs" "BASE_Y" "[I" (.ref E.2.2.2.2.2.1) (jb E) U H ∧ va_T .int E.2.2.2.2.2.1 4 (fun j => .int (jtabY j)) (jb E) U H) ∧
  (va_Z "JumpDiscs" "PLACE_TWELFTHS" "[I" (.ref E.2.2.2.2.2.2) (jb E) U H ∧ va_T .int E.2.2.2.2.2.2 4 (fun j => .int (jtabP j)) (jb E) U H)
def jWs (E : jE) (U : State) : Prop := E.1 ≤ U.heap.size ∧ va_K E.2.1 vwCl (jtys E) U ∧ (∀ w ∈ jNW, va_Nw w U) ∧ jSt E U U.heap
def jV (E : jE) (h : List va_E) (H : Heap) : Prop := va_P E.2.1 vwCl (jw E.1 h) H
/-- what a frame of ours knows of the heap: how many cells are ours, and what they hold -/
def jH (E : jE) (x : jX) (cells : Nat) (h : List va_E) (H : Heap) : Prop := E.1 + h.length = (jS x).heap.size + cells ∧ jV E h H
def jWd (E : jE) (h : List va_E) (U : State) : Prop := jWs E U ∧ jV E h U.heap ∧ U.heap.size = E.1 + h.length
theorem jV_ge {E : jE} {h : List va_E} {H : Heap} (hV : jV E h H) (hb : E.1 ≤ H.size) : E.1 + h.length ≤ H.size := by
  cases hn : h.length with
  | zero => omega
  | succ n =>
    have h1 : h[n]? = some h[n] := List.getElem?_eq_getElem (by omega)
    have h2 := (hV n _ (jw_get h1)).lt
    have h3 : E.1 + n < H.size := h2
    omega
theorem jSt.moved {E : jE} {u U : State} {H : Heap} (hvm : u.vm.Alike U.vm) (h : jSt E u H) : jSt E U H :=
  ⟨⟨h.1.1.moved hvm, h.1.2.moved hvm⟩, ⟨h.2.1.1.moved hvm, h.2.1.2.moved hvm⟩, ⟨h.2.2.1.moved hvm, h.2.2.2.moved hvm⟩⟩
theorem jSt.kept {E : jE} {U : State} {H H1 : Heap} (h : jSt E U H) (hq : ∀ a : Nat, a < H.size → ¬ jb E a → H1[a]? = H[a]?) : jSt E U H1 :=
  ⟨⟨h.1.1.kept hq, h.1.2.kept hq⟩, ⟨h.2.1.1.kept hq, h.2.1.2.kept hq⟩, ⟨h.2.2.1.kept hq, h.2.2.2.kept hq⟩⟩
theorem jWs.call {E : jE} {s U : State} {H : Heap} {locs : List Loc} (h : jWs E s) (hS : va_S (jb E) s.heap H locs) (hU : U.heap = H) (hW : s.WarmedH U.vm) : jWs E U := by
  refine ⟨by rw [hU]; exact Nat.le_trans h.1 hS.1, va_K.moved hW.alike h.2.1, jNW_warm hW h.2.2.1, ?_⟩
  rw [hU]
  exact (h.2.2.2.kept (fun a h1 h2 => hS.2.1 a h1 h2)).moved hW.alike
theorem jWd_blind (E : jE) (h : List va_E) (av : List Value) : FrameBlind (va_Pc av (jWd E h)) := by
  intro a U g mk q
  obtain ⟨q1, ⟨q2, q3, q4, q5⟩, q6⟩ := q
  exact ⟨q1, ⟨q2, va_K.moved (u := U) (U := U.calling g mk a) (Vm.Alike.refl U.vm) q3, jNW_same (u := U) (U := U.calling g mk a) rfl q4, jSt.moved (u := U) (U := U.calling g mk a) (Vm.Alike.refl U.vm) q5⟩, q6⟩
/-- the locals, by their places -/
def jlv (lv : List Value) : List (Nat × Value) := (lv.mapIdx (fun i v => (i, v))).filter (fun q => q.2.category == 1)
theorem jlv_mem (lv : List Value) (q : Nat × Value) : q ∈ jlv lv ↔ lv[q.1]? = some q.2 ∧ q.2.category = 1 := by
  simp only [jlv, List.mem_filter, List.mem_mapIdx, beq_iff_eq]
  constructor
  · rintro ⟨⟨i, hi, rfl⟩, h2⟩
    exact ⟨by simp, h2⟩
  · rintro ⟨h1, h2⟩
    obtain ⟨h3, h4⟩ := List.getElem?_eq_some_iff.mp h1
    exact ⟨⟨q.1, h3, by rw [h4]⟩, h2⟩
theorem jlv_at {ls : Array Slot} {nL : Nat} {lv : List Value} (h : lv_has ls nL (jlv lv)) {i : Nat} {v : Value} (hv : lv[i]? = some v) (hc : v.category = 1) : ls[i]? = some (.val v) :=
  h.2.2 (i, v) ((jlv_mem lv (i, v)).mpr ⟨hv, hc⟩)
theorem jlv_less {ls : Array Slot} {nL : Nat} {lv lv2 : List Value} (h : lv_has ls nL (jlv lv)) (hs : ∀ (i : Nat) (v : Value), lv2[i]? = some v → lv[i]? = some v) : lv_has ls nL (jlv lv2) :=
  ⟨h.1, h.2.1, fun q hq => h.2.2 q ((jlv_mem lv q).mpr ⟨hs _ _ ((jlv_mem lv2 q).mp hq).1, ((jlv_mem lv2 q).mp hq).2⟩)⟩
def jset (lv : List Value) (i : Nat) (v : Value) : List Value := if i < lv.length then lv.set i v else lv ++ [v]
theorem jset_at {lv : List Value} {i : Nat} {v : Value} (hi : i ≤ lv.length) (j : Nat) (w : Value) (h : (jset lv i v)[j]? = some w) : (j = i ∧ w = v) ∨ (j ≠ i ∧ lv[j]? = some w) := by
  unfold jset at h
  by_cases hl : i < lv.length
  · rw [if_pos hl, List.getElem?_set] at h
    by_cases hj : i = j
    · subst hj
      simp [hl] at h
      exact Or.inl ⟨rfl, h.symm⟩
    · rw [if_neg hj] at h
      exact Or.inr ⟨Ne.symm hj, h⟩
  · rw [if_neg hl] at h
    have hi' : i = lv.length := by omega
    by_cases hj : j < lv.length
    · rw [List.getElem?_append_left hj] at h
      exact Or.inr ⟨by omega, h⟩
    · have h1 : j = lv.length := by
        have := (List.getElem?_eq_some_iff.mp h).1
        simp at this
        omega
      subst h1
      simp at h
      exact Or.inl ⟨hi'.symm, h.symm⟩
theorem jlv_store {ls : Array Slot} {nL i : Nat} {lv : List Value} {v : Value} (hi : i ≤ lv.length) (h : lv_has ls nL ((i, v) :: (jlv lv).filter (fun q => !(q.1 == i) && !(q.1 + 1 == i && q.2.category == 2)))) : lv_has ls nL (jlv (jset lv i v)) := by
  refine ⟨h.1, h.2.1, fun q hq => h.2.2 q ?_⟩
  obtain ⟨h1, h2⟩ := (jlv_mem _ q).mp hq
  rcases jset_at hi q.1 q.2 h1 with ⟨a, b⟩ | ⟨a, b⟩
  · have e : q = (i, v) := by rw [← a, ← b]
    rw [e]; exact List.mem_cons_self
  · refine List.mem_cons_of_mem _ (List.mem_filter.mpr ⟨(jlv_mem lv q).mpr ⟨b, h2⟩, ?_⟩)
    simp [a, h2]
/-- the machine at a frame of ours comes to its end -/
def jG (E : jE) (x : jX) (cells slots pc : Nat) (lv st : List Value) (h : List va_E) : Prop :=
  ∀ (H : Heap) (locs : List Loc) (ls : Array Slot), lv_has ls (jC x).maxLocals (jlv lv) → jH E x cells h H → va_S (jb E) (jS x).heap H locs → W (jP x) (jL x) (jEn x) (jR x) (jS x) (jM x) (jA x) (jB x) (jMe x) (jC x) H locs cells slots (jQ x) (F0 (jM x) pc ls st)
/-- what holds of a frame of ours: its code, its class, the words, the world at its start, its room -/
def jF (E : jE) (x : jX) (own : String) (cc : ByteArray) (nL d cm sm : Nat) : Prop :=
  (jP x).tables.exec = Jvm.exec ∧ (jC x).code = cc ∧ (jC x).maxLocals = nL ∧ (jS x).vm.findClass own = some (jM x).cls ∧ (∀ w ∈ jTB, w.before (jA x) (jS x) = true) ∧ jWs E (jS x) ∧ d ≤ (jR x).frames ∧ 35 * d ≤ (jR x).locals ∧ cm ≤ (jR x).cells ∧ sm ≤ (jR x).slots
def jQc (E : jE) (r : Option Value) (h' : List va_E) : Array Value → State → Outcome → State → Prop := fun _ st oc t => oc = .returned r ∧ jV E h' t.heap ∧ va_F (jb E) st t
/-- what its end must be -/
def jT (E : jE) (x : jX) (ret : Option FieldType) (r : Option Value) (h' : List va_E) (mc ms : Nat) : Prop :=
  (jMe x).sig.returnType = ret ∧ (jMe x).locks = false ∧ jQ x = MQ (jB x) (jQc E r h') (jA x) (jS x) mc ms (jb E)
/-- a method's contract: from the heap h it returns r with the heap h' -/
def jMd (l : Launch) (E : jE) (y : MethodName) (cc : ByteArray) (nL : Nat) (ret : Option FieldType) (d : Nat) (av : List Value) (h : List va_E) (r : Option Value) (h' : List va_E) (mc ms : Nat) : Prop :=
  h'.length = h.length + mc ∧ Met l y (.code y cc nL ret :: jTB) ({ frames := d, cells := mc, slots := ms, locals := 35 * d }) (va_Pc av (jWd E h)) (jQc E r h') mc ms (jb E)
theorem jlv_args (av : List Value) (hc : ∀ v ∈ av, v.category = 1) : ∀ k i v, av[i]? = some v → (k + i, v) ∈ lv_args k av := by
  induction av with
  | nil => intro k i v h; simp at h
  | cons a l ih =>
    intro k i v h
    have h1 : a.category = 1 := hc a List.mem_cons_self
    have h2 : ¬ a.category = 2 := by omega
    simp only [lv_args, if_neg h2]
    cases i with
    | zero => simp at h; subst h; exact List.mem_cons_self
    | succ i =>
      have h3 := ih (fun w hw => hc w (List.mem_cons_of_mem _ hw)) (k + 1) i v (by simpa using h)
      exact List.mem_cons_of_mem _ (by rw [show k + (i + 1) = k + 1 + i by omega]; exact h3)
theorem jMd_of {l : Launch} {E : jE} {y : MethodName} {cc : ByteArray} {nL : Nat} {ret : Option FieldType} {d : Nat} {av : List Value} {h : List va_E} {r : Option Value} {h' : List va_E} {mc ms : Nat} (hy : plainName y.cls = true) (hn : (lg_sl av).length ≤ nL) (hc : ∀ v ∈ av, v.category = 1) (hlen : h'.length = h.length + mc)
    (body : ∀ x : jX, jL x = l → jF E x y.cls cc nL d mc ms → jT E x ret r h' mc ms → ((jMe x).name = y.name) → jG E x 0 0 0 av [] h) : jMd l E y cc nL ret d av h r h' mc ms := by
  refine ⟨hlen, Met.ofW (cc := cc) (maxL := nL) (ret := ret) hy rfl ?_⟩
  intro p e s m args below meth c s₁ B hml hv
  obtain ⟨rfl, hWs, hH, hz⟩ := hv
  have hts := atoms_spec (ws := .code y cc nL ret :: jTB) B.pre
  have hl := lv_entry av (n := nL) hn
  have key := body (p, l, e, { frames := d, cells := mc, slots := ms, locals := 35 * d }, s, m, av.toArray, below, meth, c, MQ below (jQc E r h') av.toArray s mc ms (jb E)) rfl
    ⟨B.exec, B.bytes, hml, findClass_of_methodNamed B.named, fun w hw => hts w (List.mem_cons_of_mem _ hw), hWs, Nat.le_refl _, Nat.le_refl _, Nat.le_refl _, Nat.le_refl _⟩ ⟨B.returns, B.notSynchronized, rfl⟩ (name_of_methodNamed B.named B.method).1
  rw [lg_entry_eq]
  refine key s.heap [] _ ?_ ⟨hz.symm, hH⟩ va_S.rf
  rw [show (jC (p, l, e, ({ frames := d, cells := mc, slots := ms, locals := 35 * d } : Room), s, m, av.toArray, below, meth, c, MQ below (jQc E r h') av.toArray s mc ms (jb E))).maxLocals = nL from hml]
  refine ⟨hl.1, hl.2.1, fun q hq => hl.2.2 q ?_⟩
  have h3 := (jlv_mem av q).mp hq
  have h4 := jlv_args av hc 0 q.1 q.2 h3.1
  simpa using h4
end
section
/-! ===== the instructions over jG ===== -/
section JI
variable {E : jE} {x : jX} {own : String} {cc : ByteArray} {nL d cm sm cells slots pc : Nat} {lv st : List Value} {h : List va_E}
theorem jG_iconst (F : jF E x own cc nL d cm sm) {n : Int} {v : Int32} (dg : decode cc pc = .ok (.iconst n, 1)) (hv : Int32.ofInt n = v) (k : jG E x cells slots (pc + 1) lv (.int v :: st) h) : jG E x cells slots pc lv (st) h :=
  fun H locs ls hl hH hS => lv_iconst F.1 F.2.1 dg hv (k H locs ls hl hH hS)
theorem jG_bipush (F : jF E x own cc nL d cm sm) {n : Int} {v : Int32} (dg : decode cc pc = .ok (.bipush n, 2)) (hv : (Int8.ofInt n).toInt32 = v) (k : jG E x cells slots (pc + 2) lv (.int v :: st) h) : jG E x cells slots pc lv (st) h :=
  fun H locs ls hl hH hS => lv_bipush F.1 F.2.1 dg hv (k H locs ls hl hH hS)
theorem jG_sipush (F : jF E x own cc nL d cm sm) {n : Int} {v : Int32} (dg : decode cc pc = .ok (.sipush n, 3)) (hv : (Int16.ofInt n).toInt32 = v) (k : jG E x cells slots (pc + 3) lv (.int v :: st) h) : jG E x cells slots pc lv (st) h :=
  fun H locs ls hl hH hS => lv_sipush F.1 F.2.1 dg hv (k H locs ls hl hH hS)
theorem jG_lconst (F : jF E x own cc nL d cm sm) {n : Fin 2} {v : Int64} (dg : decode cc pc = .ok (.lconst n, 1)) (hv : Int64.ofNat (n : Nat) = v) (k : jG E x cells slots (pc + 1) lv (.long v :: st) h) : jG E x cells slots pc lv (st) h :=
  fun H locs ls hl hH hS => lv_lconst F.1 F.2.1 dg hv (k H locs ls hl hH hS)
theorem jG_iadd (F : jF E x own cc nL d cm sm) {a b : Int32} (dg : decode cc pc = .ok (.iadd, 1))  (k : jG E x cells slots (pc + 1) lv (.int (a + b) :: st) h) : jG E x cells slots pc lv (.int b :: .int a :: st) h :=
  fun H locs ls hl hH hS => lv_iadd F.1 F.2.1 dg  (k H locs ls hl hH hS)
theorem jG_isub (F : jF E x own cc nL d cm sm) {a b : Int32} (dg : decode cc pc = .ok (.isub, 1))  (k : jG E x cells slots (pc + 1) lv (.int (a - b) :: st) h) : jG E x cells slots pc lv (.int b :: .int a :: st) h :=
  fun H locs ls hl hH hS => lv_isub F.1 F.2.1 dg  (k H locs ls hl hH hS)
theorem jG_imul (F : jF E x own cc nL d cm sm) {a b : Int32} (dg : decode cc pc = .ok (.imul, 1))  (k : jG E x cells slots (pc + 1) lv (.int (a * b) :: st) h) : jG E x cells slots pc lv (.int b :: .int a :: st) h :=
  fun H locs ls hl hH hS => lv_imul F.1 F.2.1 dg  (k H locs ls hl hH hS)
theorem jG_iand (F : jF E x own cc nL d cm sm) {a b : Int32} (dg : decode cc pc = .ok (.iand, 1))  (k : jG E x cells slots (pc + 1) lv (.int (a &&& b) :: st) h) : jG E x cells slots pc lv (.int b :: .int a :: st) h :=
  fun H locs ls hl hH hS => lv_iand F.1 F.2.1 dg  (k H locs ls hl hH hS)
theorem jG_ior (F : jF E x own cc nL d cm sm) {a b : Int32} (dg : decode cc pc = .ok (.ior, 1))  (k : jG E x cells slots (pc + 1) lv (.int (a ||| b) :: st) h) : jG E x cells slots pc lv (.int b :: .int a :: st) h :=
  fun H locs ls hl hH hS => lv_ior F.1 F.2.1 dg  (k H locs ls hl hH hS)
theorem jG_ixor (F : jF E x own cc nL d cm sm) {a b : Int32} (dg : decode cc pc = .ok (.ixor, 1))  (k : jG E x cells slots (pc + 1) lv (.int (a ^^^ b) :: st) h) : jG E x cells slots pc lv (.int b :: .int a :: st) h :=
  fun H locs ls hl hH hS => lv_ixor F.1 F.2.1 dg  (k H locs ls hl hH hS)
theorem jG_ishl (F : jF E x own cc nL d cm sm) {a b : Int32} (dg : decode cc pc = .ok (.ishl, 1))  (k : jG E x cells slots (pc + 1) lv (.int (a <<< (b &&& 31)) :: st) h) : jG E x cells slots pc lv (.int b :: .int a :: st) h :=
  fun H locs ls hl hH hS => lv_ishl F.1 F.2.1 dg  (k H locs ls hl hH hS)
theorem jG_ishr (F : jF E x own cc nL d cm sm) {a b : Int32} (dg : decode cc pc = .ok (.ishr, 1))  (k : jG E x cells slots (pc + 1) lv (.int (a >>> (b &&& 31)) :: st) h) : jG E x cells slots pc lv (.int b :: .int a :: st) h :=
  fun H locs ls hl hH hS => lv_ishr F.1 F.2.1 dg  (k H locs ls hl hH hS)
theorem jG_iushr (F : jF E x own cc nL d cm sm) {a b v : Int32} (dg : decode cc pc = .ok (.iushr, 1)) (hv : (a.toUInt32 >>> (b.toUInt32 &&& Int32.toUInt32 31)).toInt32 = v) (k : jG E x cells slots (pc + 1) lv (.int v :: st) h) : jG E x cells slots pc lv (.int b :: .int a :: st) h :=
  fun H locs ls hl hH hS => lv_iushr F.1 F.2.1 dg hv (k H locs ls hl hH hS)
theorem jG_idiv (F : jF E x own cc nL d cm sm) {a b : Int32} (dg : decode cc pc = .ok (.idiv, 1)) (hne : ¬ b = 0) (k : jG E x cells slots (pc + 1) lv (.int (a / b) :: st) h) : jG E x cells slots pc lv (.int b :: .int a :: st) h :=
  fun H locs ls hl hH hS => lv_idiv F.1 F.2.1 dg hne (k H locs ls hl hH hS)
theorem jG_irem (F : jF E x own cc nL d cm sm) {a b : Int32} (dg : decode cc pc = .ok (.irem, 1)) (hne : ¬ b = 0) (k : jG E x cells slots (pc + 1) lv (.int (a - a / b * b) :: st) h) : jG E x cells slots pc lv (.int b :: .int a :: st) h :=
  fun H locs ls hl hH hS => lv_irem F.1 F.2.1 dg hne (k H locs ls hl hH hS)
theorem jG_ineg (F : jF E x own cc nL d cm sm) {a : Int32} (dg : decode cc pc = .ok (.ineg, 1))  (k : jG E x cells slots (pc + 1) lv (.int (-a) :: st) h) : jG E x cells slots pc lv (.int a :: st) h :=
  fun H locs ls hl hH hS => lv_ineg F.1 F.2.1 dg  (k H locs ls hl hH hS)
theorem jG_lmul (F : jF E x own cc nL d cm sm) {a b : Int64} (dg : decode cc pc = .ok (.lmul, 1))  (k : jG E x cells slots (pc + 1) lv (.long (a * b) :: st) h) : jG E x cells slots pc lv (.long b :: .long a :: st) h :=
  fun H locs ls hl hH hS => lv_lmul F.1 F.2.1 dg  (k H locs ls hl hH hS)
theorem jG_lrem (F : jF E x own cc nL d cm sm) {a b : Int64} (dg : decode cc pc = .ok (.lrem, 1)) (hne : ¬ b = 0) (k : jG E x cells slots (pc + 1) lv (.long (a - a / b * b) :: st) h) : jG E x cells slots pc lv (.long b :: .long a :: st) h :=
  fun H locs ls hl hH hS => lv_lrem F.1 F.2.1 dg hne (k H locs ls hl hH hS)
theorem jG_i2l (F : jF E x own cc nL d cm sm) {a : Int32} (dg : decode cc pc = .ok (.i2l, 1))  (k : jG E x cells slots (pc + 1) lv (.long a.toInt64 :: st) h) : jG E x cells slots pc lv (.int a :: st) h :=
  fun H locs ls hl hH hS => lv_i2l F.1 F.2.1 dg rfl (k H locs ls hl hH hS)
theorem jG_l2i (F : jF E x own cc nL d cm sm) {a : Int64} (dg : decode cc pc = .ok (.l2i, 1))  (k : jG E x cells slots (pc + 1) lv (.int a.toInt32 :: st) h) : jG E x cells slots pc lv (.long a :: st) h :=
  fun H locs ls hl hH hS => lv_l2i F.1 F.2.1 dg rfl (k H locs ls hl hH hS)
theorem jG_lcmp (F : jF E x own cc nL d cm sm) {a b : Int64} (dg : decode cc pc = .ok (.lcmp, 1))  (k : jG E x cells slots (pc + 1) lv (.int (lg_cmp a b) :: st) h) : jG E x cells slots pc lv (.long b :: .long a :: st) h :=
  fun H locs ls hl hH hS => W.lcmp F.1 F.2.1 dg  (k H locs ls hl hH hS)
theorem jG_dup (F : jF E x own cc nL d cm sm) {v : Value} (dg : decode cc pc = .ok (.dup, 1)) (hv : v.category = 1) (k : jG E x cells slots (pc + 1) lv (v :: v :: st) h) : jG E x cells slots pc lv (v :: st) h :=
  fun H locs ls hl hH hS => lv_dup F.1 F.2.1 dg hv (k H locs ls hl hH hS)
theorem jG_dup2 (F : jF E x own cc nL d cm sm) {u v : Value} (dg : decode cc pc = .ok (.dup2, 1)) (hu : u.category = 1) (hv : v.category = 1) (k : jG E x cells slots (pc + 1) lv (v :: u :: v :: u :: st) h) : jG E x cells slots pc lv (v :: u :: st) h :=
  fun H locs ls hl hH hS => lv_dup2_11 F.1 F.2.1 dg hv hu (k H locs ls hl hH hS)
theorem jG_ldc (F : jF E x own cc nL d cm sm) {n : Nat} {v : Int32} (dg : decode cc pc = .ok (.ldc n, 2)) (hw : Cond.constant own n v ∈ jTB) (k : jG E x cells slots (pc + 2) lv (.int v :: st) h) : jG E x cells slots pc lv (st) h :=
  fun H locs ls hl hH hS => lv_ldc F.1 F.2.1 F.2.2.2.1 (F.2.2.2.2.1 _ hw) dg (k H locs ls hl hH hS)
theorem jG_ldcw (F : jF E x own cc nL d cm sm) {n : Nat} {v : Int32} (dg : decode cc pc = .ok (.ldc_w n, 3)) (hw : Cond.constant own n v ∈ jTB) (k : jG E x cells slots (pc + 3) lv (.int v :: st) h) : jG E x cells slots pc lv (st) h :=
  fun H locs ls hl hH hS => lv_ldcw F.1 F.2.1 F.2.2.2.1 (F.2.2.2.2.1 _ hw) dg (k H locs ls hl hH hS)
theorem jG_ldc2 (F : jF E x own cc nL d cm sm) {n : Nat} {v : Int64} (dg : decode cc pc = .ok (.ldc2_w n, 3)) (hw : Cond.constantLong own n v ∈ jTB) (k : jG E x cells slots (pc + 3) lv (.long v :: st) h) : jG E x cells slots pc lv (st) h :=
  fun H locs ls hl hH hS => lv_ldc2 F.1 F.2.1 F.2.2.2.1 (F.2.2.2.2.1 _ hw) dg (k H locs ls hl hH hS)
theorem jG_iload_n (F : jF E x own cc nL d cm sm) {i : Fin 4} {v : Int32} (dg : decode cc pc = .ok (.iload_n i, 1)) (hv : lv[(i : Nat)]? = some (.int v)) (k : jG E x cells slots (pc + 1) lv (.int v :: st) h) : jG E x cells slots pc lv st h :=
  fun H locs ls hl hH hS => lv_iload_n F.1 F.2.1 dg rfl (jlv_at hl hv rfl) (k H locs ls hl hH hS)
theorem jG_iload (F : jF E x own cc nL d cm sm) {i : Nat} {v : Int32} (dg : decode cc pc = .ok (.iload i, 2)) (hv : lv[i]? = some (.int v)) (k : jG E x cells slots (pc + 2) lv (.int v :: st) h) : jG E x cells slots pc lv st h :=
  fun H locs ls hl hH hS => lv_iload F.1 F.2.1 dg (jlv_at hl hv rfl) (k H locs ls hl hH hS)
theorem jG_istore_n (F : jF E x own cc nL d cm sm) {i : Fin 4} {v : Int32} (dg : decode cc pc = .ok (.istore_n i, 1)) (hi : (i : Nat) ≤ lv.length) (hn : (i : Nat) < nL) (k : jG E x cells slots (pc + 1) (jset lv i (.int v)) st h) : jG E x cells slots pc lv (.int v :: st) h :=
  fun H locs ls hl hH hS => lv_istore_n F.1 F.2.1 dg rfl hl (by rw [F.2.2.1]; exact hn) rfl (fun ls' hl' => k H locs ls' (jlv_store hi hl') hH hS)
theorem jG_istore (F : jF E x own cc nL d cm sm) {i : Nat} {v : Int32} (dg : decode cc pc = .ok (.istore i, 2)) (hi : i ≤ lv.length) (hn : i < nL) (k : jG E x cells slots (pc + 2) (jset lv i (.int v)) st h) : jG E x cells slots pc lv (.int v :: st) h :=
  fun H locs ls hl hH hS => lv_istore F.1 F.2.1 dg hl (by rw [F.2.2.1]; exact hn) rfl (fun ls' hl' => k H locs ls' (jlv_store hi hl') hH hS)
theorem jG_aload_n (F : jF E x own cc nL d cm sm) {i : Fin 4} {v : Nat} (dg : decode cc pc = .ok (.aload_n i, 1)) (hv : lv[(i : Nat)]? = some (.ref v)) (k : jG E x cells slots (pc + 1) lv (.ref v :: st) h) : jG E x cells slots pc lv st h :=
  fun H locs ls hl hH hS => lv_aload_n F.1 F.2.1 dg rfl (jlv_at hl hv rfl) (k H locs ls hl hH hS)
theorem jG_aload (F : jF E x own cc nL d cm sm) {i : Nat} {v : Nat} (dg : decode cc pc = .ok (.aload i, 2)) (hv : lv[i]? = some (.ref v)) (k : jG E x cells slots (pc + 2) lv (.ref v :: st) h) : jG E x cells slots pc lv st h :=
  fun H locs ls hl hH hS => lv_aload F.1 F.2.1 dg (jlv_at hl hv rfl) (k H locs ls hl hH hS)
theorem jG_astore_n (F : jF E x own cc nL d cm sm) {i : Fin 4} {v : Nat} (dg : decode cc pc = .ok (.astore_n i, 1)) (hi : (i : Nat) ≤ lv.length) (hn : (i : Nat) < nL) (k : jG E x cells slots (pc + 1) (jset lv i (.ref v)) st h) : jG E x cells slots pc lv (.ref v :: st) h :=
  fun H locs ls hl hH hS => lv_astore_n F.1 F.2.1 dg rfl hl (by rw [F.2.2.1]; exact hn) rfl (fun ls' hl' => k H locs ls' (jlv_store hi hl') hH hS)
theorem jG_astore (F : jF E x own cc nL d cm sm) {i : Nat} {v : Nat} (dg : decode cc pc = .ok (.astore i, 2)) (hi : i ≤ lv.length) (hn : i < nL) (k : jG E x cells slots (pc + 2) (jset lv i (.ref v)) st h) : jG E x cells slots pc lv (.ref v :: st) h :=
  fun H locs ls hl hH hS => lv_astore F.1 F.2.1 dg hl (by rw [F.2.2.1]; exact hn) rfl (fun ls' hl' => k H locs ls' (jlv_store hi hl') hH hS)
theorem jG_iinc (F : jF E x own cc nL d cm sm) {i : Nat} {n : Int} {v w : Int32} (dg : decode cc pc = .ok (.iinc i n, 3)) (hv : lv[i]? = some (.int v)) (hw : v + Int32.ofInt n = w) (hn : i < nL) (k : jG E x cells slots (pc + 3) (jset lv i (.int w)) st h) : jG E x cells slots pc lv st h := by
  intro H locs ls hl hH hS
  obtain ⟨q, hq⟩ := List.getElem?_of_mem ((jlv_mem lv (i, .int v)).mpr ⟨hv, rfl⟩)
  exact lv_iinc F.1 F.2.1 dg hl hq hw (by rw [F.2.2.1]; exact hn) rfl (fun ls' hl' => k H locs ls' (jlv_store (Nat.le_of_lt (List.getElem?_eq_some_iff.mp hv).1) hl') hH hS)
theorem jG_if_eq (F : jF E x own cc nL d cm sm) {a : Int32} {off : Int} (tgt : Nat) (dg : decode cc pc = .ok (.ifCond .eq off, 3)) (ht : (pc : Int) + off = (tgt : Int)) (kt : a = 0 → jG E x cells slots tgt lv st h) (kf : ¬ a = 0 → jG E x cells slots (pc + 3) lv st h) : jG E x cells slots pc lv (.int a :: st) h :=
  fun H locs ls hl hH hS => lv_if_eq F.1 F.2.1 dg ht (fun q => kt q H locs ls hl hH hS) (fun q => kf q H locs ls hl hH hS)
theorem jG_icmp_eq (F : jF E x own cc nL d cm sm) {a b : Int32} {off : Int} (tgt : Nat) (dg : decode cc pc = .ok (.if_icmp .eq off, 3)) (ht : (pc : Int) + off = (tgt : Int)) (kt : a = b → jG E x cells slots tgt lv st h) (kf : ¬ a = b → jG E x cells slots (pc + 3) lv st h) : jG E x cells slots pc lv (.int b :: .int a :: st) h :=
  fun H locs ls hl hH hS => lv_icmp_eq F.1 F.2.1 dg ht (fun q => kt q H locs ls hl hH hS) (fun q => kf q H locs ls hl hH hS)
theorem jG_if_ne (F : jF E x own cc nL d cm sm) {a : Int32} {off : Int} (tgt : Nat) (dg : decode cc pc = .ok (.ifCond .ne off, 3)) (ht : (pc : Int) + off = (tgt : Int)) (kt : ¬ a = 0 → jG E x cells slots tgt lv st h) (kf : a = 0 → jG E x cells slots (pc + 3) lv st h) : jG E x cells slots pc lv (.int a :: st) h :=
  fun H locs ls hl hH hS => lv_if_ne F.1 F.2.1 dg ht (fun q => kt q H locs ls hl hH hS) (fun q => kf q H locs ls hl hH hS)
theorem jG_icmp_ne (F : jF E x own cc nL d cm sm) {a b : Int32} {off : Int} (tgt : Nat) (dg : decode cc pc = .ok (.if_icmp .ne off, 3)) (ht : (pc : Int) + off = (tgt : Int)) (kt : ¬ a = b → jG E x cells slots tgt lv st h) (kf : a = b → jG E x cells slots (pc + 3) lv st h) : jG E x cells slots pc lv (.int b :: .int a :: st) h :=
  fun H locs ls hl hH hS => lv_icmp_ne F.1 F.2.1 dg ht (fun q => kt q H locs ls hl hH hS) (fun q => kf q H locs ls hl hH hS)
theorem jG_if_lt (F : jF E x own cc nL d cm sm) {a : Int32} {off : Int} (tgt : Nat) (dg : decode cc pc = .ok (.ifCond .lt off, 3)) (ht : (pc : Int) + off = (tgt : Int)) (kt : a < 0 → jG E x cells slots tgt lv st h) (kf : ¬ a < 0 → jG E x cells slots (pc + 3) lv st h) : jG E x cells slots pc lv (.int a :: st) h :=
  fun H locs ls hl hH hS => lv_if_lt F.1 F.2.1 dg ht (fun q => kt q H locs ls hl hH hS) (fun q => kf q H locs ls hl hH hS)
theorem jG_icmp_lt (F : jF E x own cc nL d cm sm) {a b : Int32} {off : Int} (tgt : Nat) (dg : decode cc pc = .ok (.if_icmp .lt off, 3)) (ht : (pc : Int) + off = (tgt : Int)) (kt : a < b → jG E x cells slots tgt lv st h) (kf : ¬ a < b → jG E x cells slots (pc + 3) lv st h) : jG E x cells slots pc lv (.int b :: .int a :: st) h :=
  fun H locs ls hl hH hS => lv_icmp_lt F.1 F.2.1 dg ht (fun q => kt q H locs ls hl hH hS) (fun q => kf q H locs ls hl hH hS)
theorem jG_if_ge (F : jF E x own cc nL d cm sm) {a : Int32} {off : Int} (tgt : Nat) (dg : decode cc pc = .ok (.ifCond .ge off, 3)) (ht : (pc : Int) + off = (tgt : Int)) (kt : 0 ≤ a → jG E x cells slots tgt lv st h) (kf : ¬ 0 ≤ a → jG E x cells slots (pc + 3) lv st h) : jG E x cells slots pc lv (.int a :: st) h :=
  fun H locs ls hl hH hS => lv_if_ge F.1 F.2.1 dg ht (fun q => kt q H locs ls hl hH hS) (fun q => kf q H locs ls hl hH hS)
theorem jG_icmp_ge (F : jF E x own cc nL d cm sm) {a b : Int32} {off : Int} (tgt : Nat) (dg : decode cc pc = .ok (.if_icmp .ge off, 3)) (ht : (pc : Int) + off = (tgt : Int)) (kt : b ≤ a → jG E x cells slots tgt lv st h) (kf : ¬ b ≤ a → jG E x cells slots (pc + 3) lv st h) : jG E x cells slots pc lv (.int b :: .int a :: st) h :=
  fun H locs ls hl hH hS => lv_icmp_ge F.1 F.2.1 dg ht (fun q => kt q H locs ls hl hH hS) (fun q => kf q H locs ls hl hH hS)
theorem jG_if_gt (F : jF E x own cc nL d cm sm) {a : Int32} {off : Int} (tgt : Nat) (dg : decode cc pc = .ok (.ifCond .gt off, 3)) (ht : (pc : Int) + off = (tgt : Int)) (kt : 0 < a → jG E x cells slots tgt lv st h) (kf : ¬ 0 < a → jG E x cells slots (pc + 3) lv st h) : jG E x cells slots pc lv (.int a :: st) h :=
  fun H locs ls hl hH hS => lv_if_gt F.1 F.2.1 dg ht (fun q => kt q H locs ls hl hH hS) (fun q => kf q H locs ls hl hH hS)
theorem jG_icmp_gt (F : jF E x own cc nL d cm sm) {a b : Int32} {off : Int} (tgt : Nat) (dg : decode cc pc = .ok (.if_icmp .gt off, 3)) (ht : (pc : Int) + off = (tgt : Int)) (kt : b < a → jG E x cells slots tgt lv st h) (kf : ¬ b < a → jG E x cells slots (pc + 3) lv st h) : jG E x cells slots pc lv (.int b :: .int a :: st) h :=
  fun H locs ls hl hH hS => lv_icmp_gt F.1 F.2.1 dg ht (fun q => kt q H locs ls hl hH hS) (fun q => kf q H locs ls hl hH hS)
theorem jG_if_le (F : jF E x own cc nL d cm sm) {a : Int32} {off : Int} (tgt : Nat) (dg : decode cc pc = .ok (.ifCond .le off, 3)) (ht : (pc : Int) + off = (tgt : Int)) (kt : a ≤ 0 → jG E x cells slots tgt lv st h) (kf : ¬ a ≤ 0 → jG E x cells slots (pc + 3) lv st h) : jG E x cells slots pc lv (.int a :: st) h :=
  fun H locs ls hl hH hS => lv_if_le F.1 F.2.1 dg ht (fun q => kt q H locs ls hl hH hS) (fun q => kf q H locs ls hl hH hS)
theorem jG_icmp_le (F : jF E x own cc nL d cm sm) {a b : Int32} {off : Int} (tgt : Nat) (dg : decode cc pc = .ok (.if_icmp .le off, 3)) (ht : (pc : Int) + off = (tgt : Int)) (kt : a ≤ b → jG E x cells slots tgt lv st h) (kf : ¬ a ≤ b → jG E x cells slots (pc + 3) lv st h) : jG E x cells slots pc lv (.int b :: .int a :: st) h :=
  fun H locs ls hl hH hS => lv_icmp_le F.1 F.2.1 dg ht (fun q => kt q H locs ls hl hH hS) (fun q => kf q H locs ls hl hH hS)
theorem jG_goto (F : jF E x own cc nL d cm sm) {off : Int} (tgt : Nat) (dg : decode cc pc = .ok (.goto off, 3)) (ht : (pc : Int) + off = (tgt : Int)) (k : jG E x cells slots tgt lv st h) : jG E x cells slots pc lv st h :=
  fun H locs ls hl hH hS => lv_goto F.1 F.2.1 dg ht (k H locs ls hl hH hS)
theorem jG_tableOut (F : jF E x own cc nL d cm sm) {dflt lo hi : Int} {offs : Array Int} {len : Nat} {a : Int32} (tgt : Nat) (dg : decode cc pc = .ok (.tableswitch dflt lo hi offs, len)) (hh : a.toInt < lo ∨ hi < a.toInt) (ht : (pc : Int) + dflt = (tgt : Int)) (k : jG E x cells slots tgt lv st h) : jG E x cells slots pc lv (.int a :: st) h :=
  fun H locs ls hl hH hS => lv_tableOut F.1 F.2.1 dg hh ht (k H locs ls hl hH hS)
theorem jG_tableIn (F : jF E x own cc nL d cm sm) {dflt lo hi : Int} {offs : Array Int} {len : Nat} {a : Int32} {off : Int} (tgt : Nat) (dg : decode cc pc = .ok (.tableswitch dflt lo hi offs, len)) (h1 : ¬ a.toInt < lo) (h2 : ¬ hi < a.toInt) (ho : offs[(a.toInt - lo).toNat]? = some off) (ht : (pc : Int) + off = (tgt : Int)) (k : jG E x cells slots tgt lv st h) : jG E x cells slots pc lv (.int a :: st) h :=
  fun H locs ls hl hH hS => lv_tableIn F.1 F.2.1 dg h1 h2 ho ht (k H locs ls hl hH hS)
theorem jG_less {lv2 : List Value} (hs : ∀ (i : Nat) (v : Value), lv2[i]? = some v → lv[i]? = some v) (k : jG E x cells slots pc lv2 st h) : jG E x cells slots pc lv st h := fun H locs ls hl hH hS => k H locs ls (jlv_less hl hs) hH hS
theorem jG_take (n : Nat) (k : jG E x cells slots pc (lv.take n) st h) : jG E x cells slots pc lv st h := jG_less (fun i v q => by
  rw [List.getElem?_take] at q
  split at q
  · exact q
  · cases q) k
theorem jG_eq {st2 lv2 : List Value} {h2 : List va_E} (e1 : lv = lv2) (e2 : st = st2) (e3 : h = h2) (k : jG E x cells slots pc lv2 st2 h2) : jG E x cells slots pc lv st h := by subst e1; subst e2; subst e3; exact k
theorem jG_ireturn (F : jF E x own cc nL d cm sm) {v : Int32} {ty : FieldType} (T : jT E x (some ty) (some (.int v)) h cells slots) (hn : narrow ty (.int v) = .int v) (dg : decode cc pc = .ok (.ireturn, 1)) : jG E x cells slots pc lv [.int v] h := by
  intro H locs ls hl hH hS
  rw [T.2.2]
  exact W.zret F.1 F.2.1 T.1 hn (fun t ht hW => ⟨rfl, by rw [ht]; exact hH.2, hS.F ht⟩) hS.2.2 dg T.2.1
theorem jG_return (F : jF E x own cc nL d cm sm) (T : jT E x none none h cells slots) (dg : decode cc pc = .ok (.return_, 1)) : jG E x cells slots pc lv [] h := by
  intro H locs ls hl hH hS
  rw [T.2.2]
  exact W.vret F.1 F.2.1 T.1 (fun t ht hW => ⟨rfl, by rw [ht]; exact hH.2, hS.F ht⟩) hS.2.2 dg T.2.1
end JI
/-! ===== fields, arrays, statics ===== -/
section JH
variable {E : jE} {x : jX} {own : String} {cc : ByteArray} {nL d cm sm cells slots pc : Nat} {lv st : List Value} {h : List va_E}
theorem jG_get (F : jF E x own cc nL d cm sm) {C : String} {T : u_T} {N ci index i : Nat} (k0 : Nat) {fs : List Value} {v : Value} (hc : vwCl[ci]? = some (C, T, N)) (hin : ∀ w ∈ u_ws C T N, w ∈ jTB) (hk : k0 < N) (hw : Cond.fieldLink own index (T k0).1 (T k0).2.1 (T k0).2.2.1 ∈ jTB) (dg : decode cc pc = .ok (.getfield index, 3)) (he : h[i]? = some (.inr (ci, fs))) (hv : fs[k0]? = some v) (k : jG E x cells slots (pc + 3) lv (v :: st) h) : jG E x cells slots pc lv (.ref (E.1 + i) :: st) h :=
  fun H locs ls hl hH hS => va_get (D := E.2.1) F.1 F.2.1 F.2.2.2.2.1 hin F.2.2.2.1 F.2.2.2.2.2.1.2.1 hH.2 i (jw_get he) hc k0 hk (F.2.2.2.2.1 _ hw) (fun _ q => q) hv dg (k H locs ls hl hH hS)
theorem jG_getN (F : jF E x own cc nL d cm sm) {C host : String} {T : u_T} {N ci index i : Nat} (k0 : Nat) {fs : List Value} {v : Value} (hc : vwCl[ci]? = some (C, T, N)) (hin : ∀ w ∈ u_ws C T N, w ∈ jTB) (hk : k0 < N) (hw : Cond.fieldLinkNest own index (T k0).1 (T k0).2.1 (T k0).2.2.1 host ∈ jNW) (dg : decode cc pc = .ok (.getfield index, 3)) (he : h[i]? = some (.inr (ci, fs))) (hv : fs[k0]? = some v) (k : jG E x cells slots (pc + 3) lv (v :: st) h) : jG E x cells slots pc lv (.ref (E.1 + i) :: st) h :=
  fun H locs ls hl hH hS => va_getN (D := E.2.1) F.1 F.2.1 F.2.2.2.2.1 hin F.2.2.2.1 F.2.2.2.2.2.1.2.1 hH.2 i (jw_get he) hc k0 hk (va_Nw.use rfl (F.2.2.2.2.2.1.2.2.1 _ hw)) (fun _ q => q) hv dg (k H locs ls hl hH hS)
theorem jG_iaload (F : jF E x own cc nL d cm sm) {i n : Nat} {f : Nat → Int32} {j : Int32} (dg : decode cc pc = .ok (.iaload, 1)) (he : h[i]? = some (.inl (E.2.2.1, n, .inl f))) (hin : vp_in j n) (k : jG E x cells slots (pc + 1) lv (.int (f j.toNatClampNeg) :: st) h) : jG E x cells slots pc lv (.int j :: .ref (E.1 + i) :: st) h :=
  fun H locs ls hl hH hS => va_iald (D := E.2.1) F.1 F.2.1 F.2.2.2.2.2.1.2.1 hH.2 i 0 (jw_get he) rfl hin dg (k H locs ls hl hH hS)
end JH
end
section
/-! ===== stores, statics, calls ===== -/
section JK
variable {E : jE} {x : jX} {own : String} {cc : ByteArray} {nL d cm sm cells slots pc : Nat} {lv st : List Value} {h : List va_E}
theorem jH_set {i : Nat} {e : va_E} {H H1 : Heap} (hH : jH E x cells h H) (hP : va_P E.2.1 vwCl ((jw E.1 h).set i (E.1 + i, e)) H1) : jH E x cells (h.set i e) H1 :=
  ⟨by rw [List.length_set]; exact hH.1, by rw [jw_set] at hP; exact hP⟩
theorem jG_put (F : jF E x own cc nL d cm sm) {C : String} {T : u_T} {N ci index i : Nat} (k0 : Nat) {fs : List Value} {v : Value} (ty0 : Nat → FieldType) (hty : ∀ k, k < N → parseFieldDescriptor (T k).2.2.1 = some (ty0 k)) (hnm : ∀ a, a < N → ∀ b, b < N → a ≠ b → (T a).2.1 ≠ (T b).2.1) (hc : vwCl[ci]? = some (C, T, N)) (hin : ∀ w ∈ u_ws C T N, w ∈ jTB) (hk : k0 < N) (hw : Cond.fieldLink own index (T k0).1 (T k0).2.1 (T k0).2.2.1 ∈ jTB) (hfin : (T k0).2.2.2 = false) (dg : decode cc pc = .ok (.putfield index, 3)) (he : h[i]? = some (.inr (ci, fs))) (hn : narrow (ty0 k0) v = v) (hfit : fits (ty0 k0) v = true) (hl0 : k0 < fs.length) (k : jG E x cells slots (pc + 3) lv st (h.set i (.inr (ci, fs.set k0 v)))) : jG E x cells slots pc lv (v :: .ref (E.1 + i) :: st) h :=
  fun H locs ls hl hH hS => va_put (D := E.2.1) F.1 F.2.1 F.2.2.2.2.1 hin ty0 hty hnm F.2.2.2.1 F.2.2.2.2.2.1.2.1 hH.2 (jw_D E h) hS i (jw_get he) hc k0 hk (F.2.2.2.2.1 _ hw) (fun _ q => q) hfin (hty k0 hk) hn hfit hl0 dg (fun H1 locs1 hP1 hD1 hS1 => k H1 locs1 ls hl (jH_set hH hP1) hS1)
theorem jG_putN (F : jF E x own cc nL d cm sm) {C host : String} {T : u_T} {N ci index i : Nat} (k0 : Nat) {fs : List Value} {v : Value} (ty0 : Nat → FieldType) (hty : ∀ k, k < N → parseFieldDescriptor (T k).2.2.1 = some (ty0 k)) (hnm : ∀ a, a < N → ∀ b, b < N → a ≠ b → (T a).2.1 ≠ (T b).2.1) (hc : vwCl[ci]? = some (C, T, N)) (hin : ∀ w ∈ u_ws C T N, w ∈ jTB) (hk : k0 < N) (hw : Cond.fieldLinkNest own index (T k0).1 (T k0).2.1 (T k0).2.2.1 host ∈ jNW) (hfin : (T k0).2.2.2 = false) (dg : decode cc pc = .ok (.putfield index, 3)) (he : h[i]? = some (.inr (ci, fs))) (hn : narrow (ty0 k0) v = v) (hfit : fits (ty0 k0) v = true) (hl0 : k0 < fs.length) (k : jG E x cells slots (pc + 3) lv st (h.set i (.inr (ci, fs.set k0 v)))) : jG E x cells slots pc lv (v :: .ref (E.1 + i) :: st) h :=
  fun H locs ls hl hH hS => va_putN (D := E.2.1) F.1 F.2.1 F.2.2.2.2.1 hin ty0 hty hnm F.2.2.2.1 F.2.2.2.2.2.1.2.1 hH.2 (jw_D E h) hS i (jw_get he) hc k0 hk (va_Nw.use rfl (F.2.2.2.2.2.1.2.2.1 _ hw)) (fun _ q => q) hfin (hty k0 hk) hn hfit hl0 dg (fun H1 locs1 hP1 hD1 hS1 => k H1 locs1 ls hl (jH_set hH hP1) hS1)
theorem jG_putF (F : jF E x own cc nL d cm sm) {T : u_T} {N ci index i : Nat} (k0 : Nat) {fs : List Value} {v : Value} (ty0 : Nat → FieldType) (hty : ∀ k, k < N → parseFieldDescriptor (T k).2.2.1 = some (ty0 k)) (hnm : ∀ a, a < N → ∀ b, b < N → a ≠ b → (T a).2.1 ≠ (T b).2.1) (hc : vwCl[ci]? = some (own, T, N)) (hin : ∀ w ∈ u_ws own T N, w ∈ jTB) (hk : k0 < N) (hw : Cond.fieldLink own index (T k0).1 (T k0).2.1 (T k0).2.2.1 ∈ jTB) (hfin : (T k0).2.2.2 = true) (hdecl : (T k0).1 = own) (hm : (jMe x).name = "<init>") (dg : decode cc pc = .ok (.putfield index, 3)) (he : h[i]? = some (.inr (ci, fs))) (hn : narrow (ty0 k0) v = v) (hfit : fits (ty0 k0) v = true) (hl0 : k0 < fs.length) (k : jG E x cells slots (pc + 3) lv st (h.set i (.inr (ci, fs.set k0 v)))) : jG E x cells slots pc lv (v :: .ref (E.1 + i) :: st) h :=
  fun H locs ls hl hH hS => va_putF (D := E.2.1) F.1 F.2.1 F.2.2.2.2.1 hin ty0 hty hnm F.2.2.2.1 F.2.2.2.2.2.1.2.1 hH.2 (jw_D E h) hS i (jw_get he) hc k0 hk (F.2.2.2.2.1 _ hw) (fun _ q => q) hfin hm hdecl (hty k0 hk) hn hfit hl0 dg (fun H1 locs1 hP1 hD1 hS1 => k H1 locs1 ls hl (jH_set hH hP1) hS1)
theorem jG_iastore (F : jF E x own cc nL d cm sm) {i n : Nat} {f : Nat → Int32} {j v : Int32} (dg : decode cc pc = .ok (.iastore, 1)) (he : h[i]? = some (.inl (E.2.2.1, n, .inl f))) (hin : vp_in j n) (k : jG E x cells slots (pc + 1) lv st (h.set i (.inl (E.2.2.1, n, .inl (upd f j.toNatClampNeg v))))) : jG E x cells slots pc lv (.int v :: .int j :: .ref (E.1 + i) :: st) h :=
  fun H locs ls hl hH hS => va_iast (D := E.2.1) F.1 F.2.1 F.2.2.2.2.2.1.2.1 hH.2 (jw_D E h) hS i 0 (jw_get he) rfl hin dg (fun H1 locs1 hP1 hD1 hS1 => k H1 locs1 ls hl (jH_set hH hP1) hS1)
theorem jG_baseX (F : jF E x own cc nL d cm sm) {index : Nat} (hw : Cond.fieldLink own index "JumpDiscs" "BASE_X" "[I" ∈ jTB) (dg : decode cc pc = .ok (.getstatic index, 3)) (k : jG E x cells slots (pc + 3) lv (.ref E.2.2.2.2.1 :: st) h) : jG E x cells slots pc lv st h :=
  fun H locs ls hl hH hS => va_gets F.1 F.2.1 F.2.2.2.2.2.1.2.2.2.1.1 hS F.2.2.2.1 (F.2.2.2.2.1 _ hw) (fun _ q => q) dg (k H locs ls hl hH hS)
theorem jG_tab {t : Nat} {f : Nat → Int32} (F : jF E x own cc nL d cm sm) (hT : va_T .int t 4 (fun j => .int (f j)) (jb E) (jS x) (jS x).heap) {j : Int32} (dg : decode cc pc = .ok (.iaload, 1)) (hin : vp_in j 4) (k : jG E x cells slots (pc + 1) lv (.int (f j.toNatClampNeg) :: st) h) : jG E x cells slots pc lv (.int j :: .ref t :: st) h :=
  fun H locs ls hl hH hS => va_ti F.1 F.2.1 hT hS hin rfl dg (k H locs ls hl hH hS)
theorem jS_call {H H1 S0 : Heap} {locs L : List Loc} {st0 t : State} (hS : va_S (jb E) S0 H locs) (h0 : st0.heap = H) (h1 : H1 = t.heap) (hF : va_F (jb E) st0 t) (hL : ∀ q ∈ L, jb E q.base) : va_S (jb E) S0 H1 (locs ++ L) := by
  subst h0; subst h1
  refine ⟨Nat.le_trans hS.1 hF.1, fun q h1 h2 => by rw [hF.2 q (Nat.lt_of_lt_of_le h1 hS.1) h2]; exact hS.2.1 q h1 h2, fun q hq => ?_⟩
  rcases List.mem_append.mp hq with h | h
  · exact hS.2.2 q h
  · exact hL q h
/-- the callee's start, out of the caller's frame -/
theorem jPre {T : State} {H : Heap} {locs : List Loc} {As : List Value} (hWs : jWs E (jS x)) (hH : jH E x cells h H) (hS : va_S (jb E) (jS x).heap H locs) (hz : H.size ≤ (jS x).heap.size + cells) (U : State) (hU : U.heap = H) (hW : (jS x).WarmedH U.vm) : va_Pc As (jWd E h) As.toArray U := by
  refine ⟨rfl, hWs.call hS hU hW, by rw [hU]; exact hH.2, ?_⟩
  have h1 := jV_ge hH.2 (Nat.le_trans hWs.1 hS.1)
  have h2 := hH.1
  rw [hU]
  omega
theorem jGood {y : MethodName} {bytes : ByteArray} {maxL : Nat} {ret : Option FieldType} (hc : Cond.code y bytes maxL ret ∈ jTB) : GoodIn jTB (.code y bytes maxL ret :: jTB) := by
  intro w hw
  rcases List.mem_cons.mp hw with rfl | hw
  · exact ⟨hc, jTB_good _ hc⟩
  · exact ⟨hw, jTB_good _ hw⟩
/-- behind any call of ours -/
theorem jG_run {y : MethodName} {r : Option Value} {h' : List va_E} {mc ms : Nat} {av : Array Value} {rest : List Value} (hlen : h'.length = h.length + mc)
    (run : ∀ (H : Heap) (locs : List Loc) (ls : Array Slot), lv_has ls (jC x).maxLocals (jlv lv) → jH E x cells h H → va_S (jb E) (jS x).heap H locs → H.size ≤ (jS x).heap.size + cells → va_Run (jP x) (jL x) (jEn x) (jR x) (jS x) (jM x) (jA x) (jB x) (jMe x) (jC x) H locs cells slots mc ms (F0 (jM x) pc ls st) rest (jQc E r h' av) (jb E))
    (k : jG E x (cells + mc) (slots + ms) (pc + 3) lv (r.toList ++ rest) h') : jG E x cells slots pc lv st h := by
  intro H locs ls hl hH hS T hT X
  obtain ⟨v, st₀, t, T', L, h0, X', hL, e1, e2, ⟨hv, hV, hF⟩, stp⟩ := run H locs ls hl hH hS (by rw [← hT]; exact X.heapSize) T hT X
  cases hv
  obtain ⟨t2, a1, b1⟩ := k T'.heap (locs ++ L) ls hl ⟨by rw [hlen, ← Nat.add_assoc, hH.1, Nat.add_assoc], by rw [e1]; exact hV⟩ (jS_call hS h0 e1 hF hL) T' rfl X'
  exact ⟨t2, stp t2 a1, b1⟩
theorem jG_callV (F : jF E x own cc nL d cm sm) {y : MethodName} {bytes : ByteArray} {maxL : Nat} {ret : Option FieldType} {d' i n index ci N mc ms : Nat} {T : u_T} {As rest fs : List Value} {r : Option Value} {h' : List va_E}
    (hw : Cond.code y bytes maxL ret ∈ jTB ∧ Cond.methodLink own index y ∈ jTB ∧ Cond.instanceMethod y ∈ jTB ∧ Cond.selects y.cls y y ∈ jTB ∧ Cond.initialized y.cls ∈ jTB)
    (hd : y.cls ≠ "java/lang/invoke/MethodHandle" ∧ y.cls ≠ "java/lang/invoke/VarHandle" ∧ (parseMethodDescriptor y.desc).map (fun q => q.parameters.length) = some n) (hm : maxL ≤ 16) (hc : vwCl[ci]? = some (y.cls, T, N))
    (hM : jMd (jL x) E y bytes maxL ret d' (.ref (E.1 + i) :: As) h r h' mc ms) (hR : d' + 1 ≤ d) (he : h[i]? = some (.inr (ci, fs))) (hn : As.length = n) (hst : st = As.reverse ++ .ref (E.1 + i) :: rest) (hcat : (rest.map fun v => v.category).sum ≤ 8) (dg : decode cc pc = .ok (.invokevirtual index, 3)) (hcm : cells + mc ≤ cm) (hsm : slots + ms ≤ sm)
    (k : jG E x (cells + mc) (slots + ms) (pc + 3) lv (r.toList ++ rest) h') : jG E x cells slots pc lv st h := by
  refine jG_run (av := (Value.ref (E.1 + i) :: As).toArray) (y := y) hM.1 (fun H locs ls hl hH hS hz => ?_) k
  have ok := F.2.2.2.2.1
  have hfr := F.2.2.2.2.2.2.1
  have hlo := F.2.2.2.2.2.2.2.1
  have hce := F.2.2.2.2.2.2.2.2.1
  have hsl := F.2.2.2.2.2.2.2.2.2
  refine va_runV (n := n) ⟨F.1, F.2.1, rfl, F.2.2.2.1, ok⟩ hM.2 ⟨callB_of n ok (jGood hw.1) rfl rfl rfl (ok _ hw.2.2.2.2) (ok _ hw.2.1) hd ⟨by show d' + 1 ≤ _; omega, by show 8 + (maxL + 11) + 35 * d' ≤ _; omega⟩, ok _ hw.2.2.1, ok _ hw.2.2.2.1⟩ ⟨jWd_blind E h _, ?_, jPre (T := jS x) F.2.2.2.2.2.1 hH hS hz⟩ rfl hn hl.1 hst (lv_room hcat) dg ⟨by omega, by omega⟩
  exact va_recv F.2.2.2.2.2.1.2.1 hH.2 hc (jw_get he)
theorem jG_callS (F : jF E x own cc nL d cm sm) {y : MethodName} {bytes : ByteArray} {maxL : Nat} {ret : Option FieldType} {d' n index mc ms : Nat} {As rest : List Value} {r : Option Value} {h' : List va_E}
    (hw : Cond.code y bytes maxL ret ∈ jTB ∧ Cond.methodLink own index y ∈ jTB ∧ Cond.static y ∈ jTB ∧ Cond.initialized y.cls ∈ jTB)
    (hd : y.cls ≠ "java/lang/invoke/MethodHandle" ∧ y.cls ≠ "java/lang/invoke/VarHandle" ∧ (parseMethodDescriptor y.desc).map (fun q => q.parameters.length) = some n) (hm : maxL ≤ 16)
    (hM : jMd (jL x) E y bytes maxL ret d' As h r h' mc ms) (hR : d' + 1 ≤ d) (hn : As.length = n) (hst : st = As.reverse ++ rest) (hcat : (rest.map fun v => v.category).sum ≤ 8) (dg : decode cc pc = .ok (.invokestatic index, 3)) (hcm : cells + mc ≤ cm) (hsm : slots + ms ≤ sm)
    (k : jG E x (cells + mc) (slots + ms) (pc + 3) lv (r.toList ++ rest) h') : jG E x cells slots pc lv st h := by
  refine jG_run (av := As.toArray) (y := y) hM.1 (fun H locs ls hl hH hS hz => ?_) k
  have ok := F.2.2.2.2.1
  have hfr := F.2.2.2.2.2.2.1
  have hlo := F.2.2.2.2.2.2.2.1
  have hce := F.2.2.2.2.2.2.2.2.1
  have hsl := F.2.2.2.2.2.2.2.2.2
  exact va_runS (n := n) ⟨F.1, F.2.1, rfl, F.2.2.2.1, ok⟩ hM.2 ⟨callB_of n ok (jGood hw.1) rfl rfl rfl (ok _ hw.2.2.2) (ok _ hw.2.1) hd ⟨by show d' + 1 ≤ _; omega, by show 8 + (maxL + 11) + 35 * d' ≤ _; omega⟩, ok _ hw.2.2.1⟩ ⟨jWd_blind E h _, jPre (T := jS x) F.2.2.2.2.2.1 hH hS hz⟩ rfl hn hl.1 hst (lv_room hcat) dg ⟨by omega, by omega⟩
theorem jG_callI (F : jF E x own cc nL d cm sm) {y : MethodName} {bytes : ByteArray} {maxL : Nat} {d' n index mc ms b : Nat} {As rest : List Value} {r : Option Value} {h' : List va_E}
    (hw : Cond.code y bytes maxL none ∈ jTB ∧ Cond.methodLink own index y ∈ jTB ∧ Cond.instanceMethod y ∈ jTB ∧ Cond.initialized y.cls ∈ jTB) (hi : y.name = "<init>")
    (hd : y.cls ≠ "java/lang/invoke/MethodHandle" ∧ y.cls ≠ "java/lang/invoke/VarHandle" ∧ (parseMethodDescriptor y.desc).map (fun q => q.parameters.length) = some n) (hm : maxL ≤ 16)
    (hM : jMd (jL x) E y bytes maxL none d' (.ref b :: As) h r h' mc ms) (hR : d' + 1 ≤ d) (hn : As.length = n) (hst : st = As.reverse ++ .ref b :: rest) (hcat : (rest.map fun v => v.category).sum ≤ 8) (dg : decode cc pc = .ok (.invokespecial index, 3)) (hcm : cells + mc ≤ cm) (hsm : slots + ms ≤ sm)
    (k : jG E x (cells + mc) (slots + ms) (pc + 3) lv (r.toList ++ rest) h') : jG E x cells slots pc lv st h := by
  refine jG_run (av := (Value.ref b :: As).toArray) (y := y) hM.1 (fun H locs ls hl hH hS hz => ?_) k
  have ok := F.2.2.2.2.1
  have hfr := F.2.2.2.2.2.2.1
  have hlo := F.2.2.2.2.2.2.2.1
  have hce := F.2.2.2.2.2.2.2.2.1
  have hsl := F.2.2.2.2.2.2.2.2.2
  exact va_runI (n := n) ⟨F.1, F.2.1, rfl, F.2.2.2.1, ok⟩ hM.2 ⟨callB_of n ok (jGood hw.1) rfl rfl rfl (ok _ hw.2.2.2) (ok _ hw.2.1) hd ⟨by show d' + 1 ≤ _; omega, by show 8 + (maxL + 11) + 35 * d' ≤ _; omega⟩, hi, ok _ hw.2.2.1⟩ ⟨jWd_blind E h _, jPre (T := jS x) F.2.2.2.2.2.1 hH hS hz⟩ rfl hn hl.1 hst (lv_room hcat) dg ⟨by omega, by omega⟩
theorem jG_callSN (F : jF E x own cc nL d cm sm) {y : MethodName} {host : String} {bytes : ByteArray} {maxL : Nat} {ret : Option FieldType} {d' n index mc ms : Nat} {As rest : List Value} {r : Option Value} {h' : List va_E}
    (hw : Cond.code y bytes maxL ret ∈ jTB ∧ Cond.methodLinkNest own index y host ∈ jNW ∧ Cond.static y ∈ jTB ∧ Cond.initialized y.cls ∈ jTB)
    (hd : y.cls ≠ "java/lang/invoke/MethodHandle" ∧ y.cls ≠ "java/lang/invoke/VarHandle" ∧ (parseMethodDescriptor y.desc).map (fun q => q.parameters.length) = some n) (hm : maxL ≤ 16)
    (hM : jMd (jL x) E y bytes maxL ret d' As h r h' mc ms) (hR : d' + 1 ≤ d) (hn : As.length = n) (hst : st = As.reverse ++ rest) (hcat : (rest.map fun v => v.category).sum ≤ 8) (dg : decode cc pc = .ok (.invokestatic index, 3)) (hcm : cells + mc ≤ cm) (hsm : slots + ms ≤ sm)
    (k : jG E x (cells + mc) (slots + ms) (pc + 3) lv (r.toList ++ rest) h') : jG E x cells slots pc lv st h := by
  refine jG_run (av := As.toArray) (y := y) hM.1 (fun H locs ls hl hH hS hz => ?_) k
  have ok := F.2.2.2.2.1
  have hfr := F.2.2.2.2.2.2.1
  have hlo := F.2.2.2.2.2.2.2.1
  have hce := F.2.2.2.2.2.2.2.2.1
  have hsl := F.2.2.2.2.2.2.2.2.2
  exact va_runSN (n := n) (host := host) ⟨F.1, F.2.1, rfl, F.2.2.2.1, ok⟩ hM.2 ⟨va_cnB n ok (jGood hw.1) rfl rfl rfl (F.2.2.2.2.2.1.2.2.1 _ hw.2.1) (ok _ hw.2.2.2) hd ⟨by show d' + 1 ≤ _; omega, by show 8 + (maxL + 11) + 35 * d' ≤ _; omega⟩, ok _ hw.2.2.1, trivial⟩ ⟨jWd_blind E h _, jPre (T := jS x) F.2.2.2.2.2.1 hH hS hz⟩ rfl hn hl.1 hst (lv_room hcat) dg ⟨by omega, by omega⟩
theorem jG_callIN (F : jF E x own cc nL d cm sm) {y : MethodName} {host : String} {bytes : ByteArray} {maxL : Nat} {d' n index mc ms b : Nat} {As rest : List Value} {r : Option Value} {h' : List va_E}
    (hw : Cond.code y bytes maxL none ∈ jTB ∧ Cond.methodLinkNest own index y host ∈ jNW ∧ Cond.instanceMethod y ∈ jTB ∧ Cond.initialized y.cls ∈ jTB) (hi : y.name = "<init>")
    (hd : y.cls ≠ "java/lang/invoke/MethodHandle" ∧ y.cls ≠ "java/lang/invoke/VarHandle" ∧ (parseMethodDescriptor y.desc).map (fun q => q.parameters.length) = some n) (hm : maxL ≤ 16)
    (hM : jMd (jL x) E y bytes maxL none d' (.ref b :: As) h r h' mc ms) (hR : d' + 1 ≤ d) (hn : As.length = n) (hst : st = As.reverse ++ .ref b :: rest) (hcat : (rest.map fun v => v.category).sum ≤ 8) (dg : decode cc pc = .ok (.invokespecial index, 3)) (hcm : cells + mc ≤ cm) (hsm : slots + ms ≤ sm)
    (k : jG E x (cells + mc) (slots + ms) (pc + 3) lv (r.toList ++ rest) h') : jG E x cells slots pc lv st h := by
  refine jG_run (av := (Value.ref b :: As).toArray) (y := y) hM.1 (fun H locs ls hl hH hS hz => ?_) k
  have ok := F.2.2.2.2.1
  have hfr := F.2.2.2.2.2.2.1
  have hlo := F.2.2.2.2.2.2.2.1
  have hce := F.2.2.2.2.2.2.2.2.1
  have hsl := F.2.2.2.2.2.2.2.2.2
  exact va_runIN (n := n) (host := host) ⟨F.1, F.2.1, rfl, F.2.2.2.1, ok⟩ hM.2 ⟨va_cnB n ok (jGood hw.1) rfl rfl rfl (F.2.2.2.2.2.1.2.2.1 _ hw.2.1) (ok _ hw.2.2.2) hd ⟨by show d' + 1 ≤ _; omega, by show 8 + (maxL + 11) + 35 * d' ≤ _; omega⟩, hi, ok _ hw.2.2.1⟩ ⟨jWd_blind E h _, jPre (T := jS x) F.2.2.2.2.2.1 hH hS hz⟩ rfl hn hl.1 hst (lv_room hcat) dg ⟨by omega, by omega⟩
theorem jG_max (F : jF E x own cc nL d 0 0) {index : Nat} {a b : Int32} (hw : Cond.methodLink own index Lib.Math.max.name ∈ jTB) (h1 : Cond.static Lib.Math.max.name ∈ jTB) (h2 : Cond.initialized "java/lang/Math" ∈ jTB) (h3 : Cond.code Lib.Math.max.name Lib.Math.max.code 2 (some .int) ∈ jTB) (hd : 1 ≤ d) (hcat : (st.map fun v => v.category).sum ≤ 8) (dg : decode cc pc = .ok (.invokestatic index, 3)) (k : jG E x 0 0 (pc + 3) lv (.int (if a < b then b else a) :: st) h) : jG E x 0 0 pc lv (.int b :: .int a :: st) h := by
  intro H locs ls hl hH hS
  have hfr := F.2.2.2.2.2.2.1
  have hlo := F.2.2.2.2.2.2.2.1
  have ok := F.2.2.2.2.1
  exact va_mmax F.1 F.2.1 hl.1.symm F.2.2.2.1 (ok _ hw) (ok _ h1) (ok _ h2) (ok _ h3) (by omega) (by omega) (Nat.zero_le _) (Nat.zero_le _) dg (k H locs ls hl hH hS)
theorem jG_min (F : jF E x own cc nL d 0 0) {index : Nat} {a b : Int32} (hw : Cond.methodLink own index Lib.Math.min.name ∈ jTB) (h1 : Cond.static Lib.Math.min.name ∈ jTB) (h2 : Cond.initialized "java/lang/Math" ∈ jTB) (h3 : Cond.code Lib.Math.min.name Lib.Math.min.code 2 (some .int) ∈ jTB) (hd : 1 ≤ d) (hcat : (st.map fun v => v.category).sum ≤ 8) (dg : decode cc pc = .ok (.invokestatic index, 3)) (k : jG E x 0 0 (pc + 3) lv (.int (if b < a then b else a) :: st) h) : jG E x 0 0 pc lv (.int b :: .int a :: st) h := by
  intro H locs ls hl hH hS
  have hfr := F.2.2.2.2.2.2.1
  have hlo := F.2.2.2.2.2.2.2.1
  have ok := F.2.2.2.2.1
  exact va_mmin F.1 F.2.1 hl.1.symm F.2.2.2.1 (ok _ hw) (ok _ h1) (ok _ h2) (ok _ h3) (by omega) (by omega) (Nat.zero_le _) (Nat.zero_le _) dg (k H locs ls hl hH hS)
theorem jG_abs (F : jF E x own cc nL d 0 0) {index : Nat} {a : Int32} (hw : Cond.methodLink own index Lib.Math.abs.name ∈ jTB) (h1 : Cond.static Lib.Math.abs.name ∈ jTB) (h2 : Cond.initialized "java/lang/Math" ∈ jTB) (h3 : Cond.code Lib.Math.abs.name Lib.Math.abs.code 1 (some .int) ∈ jTB) (hd : 1 ≤ d) (hcat : (st.map fun v => v.category).sum ≤ 8) (dg : decode cc pc = .ok (.invokestatic index, 3)) (k : jG E x 0 0 (pc + 3) lv (.int (if 0 ≤ a then a else 0 - a) :: st) h) : jG E x 0 0 pc lv (.int a :: st) h := by
  intro H locs ls hl hH hS
  have hfr := F.2.2.2.2.2.2.1
  have hlo := F.2.2.2.2.2.2.2.1
  have ok := F.2.2.2.2.1
  exact va_mabs F.1 F.2.1 hl.1.symm F.2.2.2.1 (ok _ hw) (ok _ h1) (ok _ h2) (ok _ h3) (by omega) (by omega) (Nat.zero_le _) (Nat.zero_le _) dg (k H locs ls hl hH hS)
end JK
end
section
/-! ===== the linked fields and methods, a row each ===== -/
theorem jm {w : Cond} (i : Nat) (h : lw_tbl[i]? = some w) (hg : goodWord w = true) : w ∈ jTB := List.mem_filter.mpr ⟨List.mem_of_getElem? h, hg⟩
theorem jmn {w : Cond} (i : Nat) (h : lw_tbl[i]? = some w) (hg : jnest w = true) : w ∈ jNW := List.mem_filter.mpr ⟨List.mem_of_getElem? h, hg⟩
theorem jinX0 : ∀ w ∈ u_ws RX0 TX0 3, w ∈ jTB := by decide +kernel
theorem jinX1 : ∀ w ∈ u_ws RX1 TX1 6, w ∈ jTB := by decide +kernel
theorem jinX2 : ∀ w ∈ u_ws RX2 TX2 8, w ∈ jTB := by decide +kernel
theorem jinX3 : ∀ w ∈ u_ws RX3 TX3 9, w ∈ jTB := by decide +kernel
theorem jinX4 : ∀ w ∈ u_ws RX4 TX4 3, w ∈ jTB := by decide +kernel
theorem jinX5 : ∀ w ∈ u_ws RX5 TX5 6, w ∈ jTB := by decide +kernel
theorem jinX6 : ∀ w ∈ u_ws RX6 TX6 14, w ∈ jTB := by decide +kernel
section JS
variable {E : jE} {x : jX} {cc : ByteArray} {nL d cm sm cells slots pc : Nat} {lv st : List Value} {h h' : List va_E}
theorem jg_X1_9 (F : jF E x RX1 cc nL d cm sm) {i : Nat} {fs : List Value} {v : Value} (dg : decode cc pc = .ok (.getfield 9, 3)) (he : h[i]? = some (.inr (1, fs))) (hv : fs[0]? = some v) (k : jG E x cells slots (pc + 3) lv (v :: st) h) : jG E x cells slots pc lv (.ref (E.1 + i) :: st) h := jG_get F (C := RX1) (T := TX1) (N := 6) 0 rfl jinX1 (by decide) (jm 105 (by decide +kernel) (by decide +kernel)) dg he hv k
theorem jp_X1_9 (F : jF E x RX1 cc nL d cm sm) {i : Nat} {fs : List Value} {v : Value} (hm : (jMe x).name = "<init>") (dg : decode cc pc = .ok (.putfield 9, 3)) (he : h[i]? = some (.inr (1, fs))) (hn : narrow (tyX1 0) v = v) (hfit : fits (tyX1 0) v = true) (hl : 0 < fs.length) (k : jG E x cells slots (pc + 3) lv st (h.set i (.inr (1, fs.set 0 v)))) : jG E x cells slots pc lv (v :: .ref (E.1 + i) :: st) h := jG_putF F (T := TX1) (N := 6) 0 tyX1 tyX1_ok nmX1 rfl jinX1 (by decide) (jm 105 (by decide +kernel) (by decide +kernel)) rfl rfl hm dg he hn hfit hl k
theorem jg_X1_15 (F : jF E x RX1 cc nL d cm sm) {i : Nat} {fs : List Value} {v : Value} (dg : decode cc pc = .ok (.getfield 15, 3)) (he : h[i]? = some (.inr (1, fs))) (hv : fs[1]? = some v) (k : jG E x cells slots (pc + 3) lv (v :: st) h) : jG E x cells slots pc lv (.ref (E.1 + i) :: st) h := jG_get F (C := RX1) (T := TX1) (N := 6) 1 rfl jinX1 (by decide) (jm 109 (by decide +kernel) (by decide +kernel)) dg he hv k
theorem jp_X1_15 (F : jF E x RX1 cc nL d cm sm) {i : Nat} {fs : List Value} {v : Value} (hm : (jMe x).name = "<init>") (dg : decode cc pc = .ok (.putfield 15, 3)) (he : h[i]? = some (.inr (1, fs))) (hn : narrow (tyX1 1) v = v) (hfit : fits (tyX1 1) v = true) (hl : 1 < fs.length) (k : jG E x cells slots (pc + 3) lv st (h.set i (.inr (1, fs.set 1 v)))) : jG E x cells slots pc lv (v :: .ref (E.1 + i) :: st) h := jG_putF F (T := TX1) (N := 6) 1 tyX1 tyX1_ok nmX1 rfl jinX1 (by decide) (jm 109 (by decide +kernel) (by decide +kernel)) rfl rfl hm dg he hn hfit hl k
theorem jg_X1_18 (F : jF E x RX1 cc nL d cm sm) {i : Nat} {fs : List Value} {v : Value} (dg : decode cc pc = .ok (.getfield 18, 3)) (he : h[i]? = some (.inr (1, fs))) (hv : fs[2]? = some v) (k : jG E x cells slots (pc + 3) lv (v :: st) h) : jG E x cells slots pc lv (.ref (E.1 + i) :: st) h := jG_get F (C := RX1) (T := TX1) (N := 6) 2 rfl jinX1 (by decide) (jm 113 (by decide +kernel) (by decide +kernel)) dg he hv k
theorem jp_X1_18 (F : jF E x RX1 cc nL d cm sm) {i : Nat} {fs : List Value} {v : Value} (hm : (jMe x).name = "<init>") (dg : decode cc pc = .ok (.putfield 18, 3)) (he : h[i]? = some (.inr (1, fs))) (hn : narrow (tyX1 2) v = v) (hfit : fits (tyX1 2) v = true) (hl : 2 < fs.length) (k : jG E x cells slots (pc + 3) lv st (h.set i (.inr (1, fs.set 2 v)))) : jG E x cells slots pc lv (v :: .ref (E.1 + i) :: st) h := jG_putF F (T := TX1) (N := 6) 2 tyX1 tyX1_ok nmX1 rfl jinX1 (by decide) (jm 113 (by decide +kernel) (by decide +kernel)) rfl rfl hm dg he hn hfit hl k
theorem jg_X1_21 (F : jF E x RX1 cc nL d cm sm) {i : Nat} {fs : List Value} {v : Value} (dg : decode cc pc = .ok (.getfield 21, 3)) (he : h[i]? = some (.inr (1, fs))) (hv : fs[3]? = some v) (k : jG E x cells slots (pc + 3) lv (v :: st) h) : jG E x cells slots pc lv (.ref (E.1 + i) :: st) h := jG_get F (C := RX1) (T := TX1) (N := 6) 3 rfl jinX1 (by decide) (jm 115 (by decide +kernel) (by decide +kernel)) dg he hv k
theorem jp_X1_21 (F : jF E x RX1 cc nL d cm sm) {i : Nat} {fs : List Value} {v : Value} (dg : decode cc pc = .ok (.putfield 21, 3)) (he : h[i]? = some (.inr (1, fs))) (hn : narrow (tyX1 3) v = v) (hfit : fits (tyX1 3) v = true) (hl : 3 < fs.length) (k : jG E x cells slots (pc + 3) lv st (h.set i (.inr (1, fs.set 3 v)))) : jG E x cells slots pc lv (v :: .ref (E.1 + i) :: st) h := jG_put F (C := RX1) (T := TX1) (N := 6) 3 tyX1 tyX1_ok nmX1 rfl jinX1 (by decide) (jm 115 (by decide +kernel) (by decide +kernel)) rfl dg he hn hfit hl k
theorem jg_X1_25 (F : jF E x RX1 cc nL d cm sm) {i : Nat} {fs : List Value} {v : Value} (dg : decode cc pc = .ok (.getfield 25, 3)) (he : h[i]? = some (.inr (1, fs))) (hv : fs[4]? = some v) (k : jG E x cells slots (pc + 3) lv (v :: st) h) : jG E x cells slots pc lv (.ref (E.1 + i) :: st) h := jG_get F (C := RX1) (T := TX1) (N := 6) 4 rfl jinX1 (by decide) (jm 117 (by decide +kernel) (by decide +kernel)) dg he hv k
theorem jp_X1_25 (F : jF E x RX1 cc nL d cm sm) {i : Nat} {fs : List Value} {v : Value} (dg : decode cc pc = .ok (.putfield 25, 3)) (he : h[i]? = some (.inr (1, fs))) (hn : narrow (tyX1 4) v = v) (hfit : fits (tyX1 4) v = true) (hl : 4 < fs.length) (k : jG E x cells slots (pc + 3) lv st (h.set i (.inr (1, fs.set 4 v)))) : jG E x cells slots pc lv (v :: .ref (E.1 + i) :: st) h := jG_put F (C := RX1) (T := TX1) (N := 6) 4 tyX1 tyX1_ok nmX1 rfl jinX1 (by decide) (jm 117 (by decide +kernel) (by decide +kernel)) rfl dg he hn hfit hl k
theorem jg_X1_28 (F : jF E x RX1 cc nL d cm sm) {i : Nat} {fs : List Value} {v : Value} (dg : decode cc pc = .ok (.getfield 28, 3)) (he : h[i]? = some (.inr (1, fs))) (hv : fs[5]? = some v) (k : jG E x cells slots (pc + 3) lv (v :: st) h) : jG E x cells slots pc lv (.ref (E.1 + i) :: st) h := jG_get F (C := RX1) (T := TX1) (N := 6) 5 rfl jinX1 (by decide) (jm 119 (by decide +kernel) (by decide +kernel)) dg he hv k
theorem jp_X1_28 (F : jF E x RX1 cc nL d cm sm) {i : Nat} {fs : List Value} {v : Value} (dg : decode cc pc = .ok (.putfield 28, 3)) (he : h[i]? = some (.inr (1, fs))) (hn : narrow (tyX1 5) v = v) (hfit : fits (tyX1 5) v = true) (hl : 5 < fs.length) (k : jG E x cells slots (pc + 3) lv st (h.set i (.inr (1, fs.set 5 v)))) : jG E x cells slots pc lv (v :: .ref (E.1 + i) :: st) h := jG_put F (C := RX1) (T := TX1) (N := 6) 5 tyX1 tyX1_ok nmX1 rfl jinX1 (by decide) (jm 119 (by decide +kernel) (by decide +kernel)) rfl dg he hn hfit hl k
theorem jg_X2_12 (F : jF E x RX2 cc nL d cm sm) {i : Nat} {fs : List Value} {v : Value} (dg : decode cc pc = .ok (.getfield 12, 3)) (he : h[i]? = some (.inr (2, fs))) (hv : fs[0]? = some v) (k : jG E x cells slots (pc + 3) lv (v :: st) h) : jG E x cells slots pc lv (.ref (E.1 + i) :: st) h := jG_get F (C := RX2) (T := TX2) (N := 8) 0 rfl jinX2 (by decide) (jm 135 (by decide +kernel) (by decide +kernel)) dg he hv k
theorem jp_X2_12 (F : jF E x RX2 cc nL d cm sm) {i : Nat} {fs : List Value} {v : Value} (hm : (jMe x).name = "<init>") (dg : decode cc pc = .ok (.putfield 12, 3)) (he : h[i]? = some (.inr (2, fs))) (hn : narrow (tyX2 0) v = v) (hfit : fits (tyX2 0) v = true) (hl : 0 < fs.length) (k : jG E x cells slots (pc + 3) lv st (h.set i (.inr (2, fs.set 0 v)))) : jG E x cells slots pc lv (v :: .ref (E.1 + i) :: st) h := jG_putF F (T := TX2) (N := 8) 0 tyX2 tyX2_ok nmX2 rfl jinX2 (by decide) (jm 135 (by decide +kernel) (by decide +kernel)) rfl rfl hm dg he hn hfit hl k
theorem jg_X2_18 (F : jF E x RX2 cc nL d cm sm) {i : Nat} {fs : List Value} {v : Value} (dg : decode cc pc = .ok (.getfield 18, 3)) (he : h[i]? = some (.inr (2, fs))) (hv : fs[1]? = some v) (k : jG E x cells slots (pc + 3) lv (v :: st) h) : jG E x cells slots pc lv (.ref (E.1 + i) :: st) h := jG_get F (C := RX2) (T := TX2) (N := 8) 1 rfl jinX2 (by decide) (jm 137 (by decide +kernel) (by decide +kernel)) dg he hv k
theorem jp_X2_18 (F : jF E x RX2 cc nL d cm sm) {i : Nat} {fs : List Value} {v : Value} (dg : decode cc pc = .ok (.putfield 18, 3)) (he : h[i]? = some (.inr (2, fs))) (hn : narrow (tyX2 1) v = v) (hfit : fits (tyX2 1) v = true) (hl : 1 < fs.length) (k : jG E x cells slots (pc + 3) lv st (h.set i (.inr (2, fs.set 1 v)))) : jG E x cells slots pc lv (v :: .ref (E.1 + i) :: st) h := jG_put F (C := RX2) (T := TX2) (N := 8) 1 tyX2 tyX2_ok nmX2 rfl jinX2 (by decide) (jm 137 (by decide +kernel) (by decide +kernel)) rfl dg he hn hfit hl k
theorem jg_X2_22 (F : jF E x RX2 cc nL d cm sm) {i : Nat} {fs : List Value} {v : Value} (dg : decode cc pc = .ok (.getfield 22, 3)) (he : h[i]? = some (.inr (2, fs))) (hv : fs[2]? = some v) (k : jG E x cells slots (pc + 3) lv (v :: st) h) : jG E x cells slots pc lv (.ref (E.1 + i) :: st) h := jG_get F (C := RX2) (T := TX2) (N := 8) 2 rfl jinX2 (by decide) (jm 138 (by decide +kernel) (by decide +kernel)) dg he hv k
theorem jp_X2_22 (F : jF E x RX2 cc nL d cm sm) {i : Nat} {fs : List Value} {v : Value} (dg : decode cc pc = .ok (.putfield 22, 3)) (he : h[i]? = some (.inr (2, fs))) (hn : narrow (tyX2 2) v = v) (hfit : fits (tyX2 2) v = true) (hl : 2 < fs.length) (k : jG E x cells slots (pc + 3) lv st (h.set i (.inr (2, fs.set 2 v)))) : jG E x cells slots pc lv (v :: .ref (E.1 + i) :: st) h := jG_put F (C := RX2) (T := TX2) (N := 8) 2 tyX2 tyX2_ok nmX2 rfl jinX2 (by decide) (jm 138 (by decide +kernel) (by decide +kernel)) rfl dg he hn hfit hl k
theorem jg_X2_25 (F : jF E x RX2 cc nL d cm sm) {i : Nat} {fs : List Value} {v : Value} (dg : decode cc pc = .ok (.getfield 25, 3)) (he : h[i]? = some (.inr (2, fs))) (hv : fs[3]? = some v) (k : jG E x cells slots (pc + 3) lv (v :: st) h) : jG E x cells slots pc lv (.ref (E.1 + i) :: st) h := jG_get F (C := RX2) (T := TX2) (N := 8) 3 rfl jinX2 (by decide) (jm 139 (by decide +kernel) (by decide +kernel)) dg he hv k
theorem jp_X2_25 (F : jF E x RX2 cc nL d cm sm) {i : Nat} {fs : List Value} {v : Value} (dg : decode cc pc = .ok (.putfield 25, 3)) (he : h[i]? = some (.inr (2, fs))) (hn : narrow (tyX2 3) v = v) (hfit : fits (tyX2 3) v = true) (hl : 3 < fs.length) (k : jG E x cells slots (pc + 3) lv st (h.set i (.inr (2, fs.set 3 v)))) : jG E x cells slots pc lv (v :: .ref (E.1 + i) :: st) h := jG_put F (C := RX2) (T := TX2) (N := 8) 3 tyX2 tyX2_ok nmX2 rfl jinX2 (by decide) (jm 139 (by decide +kernel) (by decide +kernel)) rfl dg he hn hfit hl k
theorem jg_X2_28 (F : jF E x RX2 cc nL d cm sm) {i : Nat} {fs : List Value} {v : Value} (dg : decode cc pc = .ok (.getfield 28, 3)) (he : h[i]? = some (.inr (2, fs))) (hv : fs[4]? = some v) (k : jG E x cells slots (pc + 3) lv (v :: st) h) : jG E x cells slots pc lv (.ref (E.1 + i) :: st) h := jG_get F (C := RX2) (T := TX2) (N := 8) 4 rfl jinX2 (by decide) (jm 142 (by decide +kernel) (by decide +kernel)) dg he hv k
theorem jp_X2_28 (F : jF E x RX2 cc nL d cm sm) {i : Nat} {fs : List Value} {v : Value} (dg : decode cc pc = .ok (.putfield 28, 3)) (he : h[i]? = some (.inr (2, fs))) (hn : narrow (tyX2 4) v = v) (hfit : fits (tyX2 4) v = true) (hl : 4 < fs.length) (k : jG E x cells slots (pc + 3) lv st (h.set i (.inr (2, fs.set 4 v)))) : jG E x cells slots pc lv (v :: .ref (E.1 + i) :: st) h := jG_put F (C := RX2) (T := TX2) (N := 8) 4 tyX2 tyX2_ok nmX2 rfl jinX2 (by decide) (jm 142 (by decide +kernel) (by decide +kernel)) rfl dg he hn hfit hl k
theorem jg_X2_32 (F : jF E x RX2 cc nL d cm sm) {i : Nat} {fs : List Value} {v : Value} (dg : decode cc pc = .ok (.getfield 32, 3)) (he : h[i]? = some (.inr (2, fs))) (hv : fs[5]? = some v) (k : jG E x cells slots (pc + 3) lv (v :: st) h) : jG E x cells slots pc lv (.ref (E.1 + i) :: st) h := jG_get F (C := RX2) (T := TX2) (N := 8) 5 rfl jinX2 (by decide) (jm 144 (by decide +kernel) (by decide +kernel)) dg he hv k
theorem jp_X2_32 (F : jF E x RX2 cc nL d cm sm) {i : Nat} {fs : List Value} {v : Value} (dg : decode cc pc = .ok (.putfield 32, 3)) (he : h[i]? = some (.inr (2, fs))) (hn : narrow (tyX2 5) v = v) (hfit : fits (tyX2 5) v = true) (hl : 5 < fs.length) (k : jG E x cells slots (pc + 3) lv st (h.set i (.inr (2, fs.set 5 v)))) : jG E x cells slots pc lv (v :: .ref (E.1 + i) :: st) h := jG_put F (C := RX2) (T := TX2) (N := 8) 5 tyX2 tyX2_ok nmX2 rfl jinX2 (by decide) (jm 144 (by decide +kernel) (by decide +kernel)) rfl dg he hn hfit hl k
theorem jg_X2_35 (F : jF E x RX2 cc nL d cm sm) {i : Nat} {fs : List Value} {v : Value} (dg : decode cc pc = .ok (.getfield 35, 3)) (he : h[i]? = some (.inr (2, fs))) (hv : fs[6]? = some v) (k : jG E x cells slots (pc + 3) lv (v :: st) h) : jG E x cells slots pc lv (.ref (E.1 + i) :: st) h := jG_get F (C := RX2) (T := TX2) (N := 8) 6 rfl jinX2 (by decide) (jm 146 (by decide +kernel) (by decide +kernel)) dg he hv k
theorem jp_X2_35 (F : jF E x RX2 cc nL d cm sm) {i : Nat} {fs : List Value} {v : Value} (dg : decode cc pc = .ok (.putfield 35, 3)) (he : h[i]? = some (.inr (2, fs))) (hn : narrow (tyX2 6) v = v) (hfit : fits (tyX2 6) v = true) (hl : 6 < fs.length) (k : jG E x cells slots (pc + 3) lv st (h.set i (.inr (2, fs.set 6 v)))) : jG E x cells slots pc lv (v :: .ref (E.1 + i) :: st) h := jG_put F (C := RX2) (T := TX2) (N := 8) 6 tyX2 tyX2_ok nmX2 rfl jinX2 (by decide) (jm 146 (by decide +kernel) (by decide +kernel)) rfl dg he hn hfit hl k
theorem jg_X2_38 (F : jF E x RX2 cc nL d cm sm) {i : Nat} {fs : List Value} {v : Value} (dg : decode cc pc = .ok (.getfield 38, 3)) (he : h[i]? = some (.inr (2, fs))) (hv : fs[7]? = some v) (k : jG E x cells slots (pc + 3) lv (v :: st) h) : jG E x cells slots pc lv (.ref (E.1 + i) :: st) h := jG_get F (C := RX2) (T := TX2) (N := 8) 7 rfl jinX2 (by decide) (jm 148 (by decide +kernel) (by decide +kernel)) dg he hv k
theorem jp_X2_38 (F : jF E x RX2 cc nL d cm sm) {i : Nat} {fs : List Value} {v : Value} (dg : decode cc pc = .ok (.putfield 38, 3)) (he : h[i]? = some (.inr (2, fs))) (hn : narrow (tyX2 7) v = v) (hfit : fits (tyX2 7) v = true) (hl : 7 < fs.length) (k : jG E x cells slots (pc + 3) lv st (h.set i (.inr (2, fs.set 7 v)))) : jG E x cells slots pc lv (v :: .ref (E.1 + i) :: st) h := jG_put F (C := RX2) (T := TX2) (N := 8) 7 tyX2 tyX2_ok nmX2 rfl jinX2 (by decide) (jm 148 (by decide +kernel) (by decide +kernel)) rfl dg he hn hfit hl k
theorem jg_X0_9 (F : jF E x RX0 cc nL d cm sm) {i : Nat} {fs : List Value} {v : Value} (dg : decode cc pc = .ok (.getfield 9, 3)) (he : h[i]? = some (.inr (0, fs))) (hv : fs[0]? = some v) (k : jG E x cells slots (pc + 3) lv (v :: st) h) : jG E x cells slots pc lv (.ref (E.1 + i) :: st) h := jG_get F (C := RX0) (T := TX0) (N := 3) 0 rfl jinX0 (by decide) (jm 172 (by decide +kernel) (by decide +kernel)) dg he hv k
theorem jp_X0_9 (F : jF E x RX0 cc nL d cm sm) {i : Nat} {fs : List Value} {v : Value} (dg : decode cc pc = .ok (.putfield 9, 3)) (he : h[i]? = some (.inr (0, fs))) (hn : narrow (tyX0 0) v = v) (hfit : fits (tyX0 0) v = true) (hl : 0 < fs.length) (k : jG E x cells slots (pc + 3) lv st (h.set i (.inr (0, fs.set 0 v)))) : jG E x cells slots pc lv (v :: .ref (E.1 + i) :: st) h := jG_put F (C := RX0) (T := TX0) (N := 3) 0 tyX0 tyX0_ok nmX0 rfl jinX0 (by decide) (jm 172 (by decide +kernel) (by decide +kernel)) rfl dg he hn hfit hl k
theorem jg_X0_15 (F : jF E x RX0 cc nL d cm sm) {i : Nat} {fs : List Value} {v : Value} (dg : decode cc pc = .ok (.getfield 15, 3)) (he : h[i]? = some (.inr (0, fs))) (hv : fs[1]? = some v) (k : jG E x cells slots (pc + 3) lv (v :: st) h) : jG E x cells slots pc lv (.ref (E.1 + i) :: st) h := jG_get F (C := RX0) (T := TX0) (N := 3) 1 rfl jinX0 (by decide) (jm 174 (by decide +kernel) (by decide +kernel)) dg he hv k
theorem jp_X0_15 (F : jF E x RX0 cc nL d cm sm) {i : Nat} {fs : List Value} {v : Value} (dg : decode cc pc = .ok (.putfield 15, 3)) (he : h[i]? = some (.inr (0, fs))) (hn : narrow (tyX0 1) v = v) (hfit : fits (tyX0 1) v = true) (hl : 1 < fs.length) (k : jG E x cells slots (pc + 3) lv st (h.set i (.inr (0, fs.set 1 v)))) : jG E x cells slots pc lv (v :: .ref (E.1 + i) :: st) h := jG_put F (C := RX0) (T := TX0) (N := 3) 1 tyX0 tyX0_ok nmX0 rfl jinX0 (by decide) (jm 174 (by decide +kernel) (by decide +kernel)) rfl dg he hn hfit hl k
theorem jg_X0_18 (F : jF E x RX0 cc nL d cm sm) {i : Nat} {fs : List Value} {v : Value} (dg : decode cc pc = .ok (.getfield 18, 3)) (he : h[i]? = some (.inr (0, fs))) (hv : fs[2]? = some v) (k : jG E x cells slots (pc + 3) lv (v :: st) h) : jG E x cells slots pc lv (.ref (E.1 + i) :: st) h := jG_get F (C := RX0) (T := TX0) (N := 3) 2 rfl jinX0 (by decide) (jm 176 (by decide +kernel) (by decide +kernel)) dg he hv k
theorem jp_X0_18 (F : jF E x RX0 cc nL d cm sm) {i : Nat} {fs : List Value} {v : Value} (dg : decode cc pc = .ok (.putfield 18, 3)) (he : h[i]? = some (.inr (0, fs))) (hn : narrow (tyX0 2) v = v) (hfit : fits (tyX0 2) v = true) (hl : 2 < fs.length) (k : jG E x cells slots (pc + 3) lv st (h.set i (.inr (0, fs.set 2 v)))) : jG E x cells slots pc lv (v :: .ref (E.1 + i) :: st) h := jG_put F (C := RX0) (T := TX0) (N := 3) 2 tyX0 tyX0_ok nmX0 rfl jinX0 (by decide) (jm 176 (by decide +kernel) (by decide +kernel)) rfl dg he hn hfit hl k
theorem jg_X3_9 (F : jF E x RX3 cc nL d cm sm) {i : Nat} {fs : List Value} {v : Value} (dg : decode cc pc = .ok (.getfield 9, 3)) (he : h[i]? = some (.inr (3, fs))) (hv : fs[0]? = some v) (k : jG E x cells slots (pc + 3) lv (v :: st) h) : jG E x cells slots pc lv (.ref (E.1 + i) :: st) h := jG_get F (C := RX3) (T := TX3) (N := 9) 0 rfl jinX3 (by decide) (jm 192 (by decide +kernel) (by decide +kernel)) dg he hv k
theorem jp_X3_9 (F : jF E x RX3 cc nL d cm sm) {i : Nat} {fs : List Value} {v : Value} (hm : (jMe x).name = "<init>") (dg : decode cc pc = .ok (.putfield 9, 3)) (he : h[i]? = some (.inr (3, fs))) (hn : narrow (tyX3 0) v = v) (hfit : fits (tyX3 0) v = true) (hl : 0 < fs.length) (k : jG E x cells slots (pc + 3) lv st (h.set i (.inr (3, fs.set 0 v)))) : jG E x cells slots pc lv (v :: .ref (E.1 + i) :: st) h := jG_putF F (T := TX3) (N := 9) 0 tyX3 tyX3_ok nmX3 rfl jinX3 (by decide) (jm 192 (by decide +kernel) (by decide +kernel)) rfl rfl hm dg he hn hfit hl k
theorem jg_X3_15 (F : jF E x RX3 cc nL d cm sm) {i : Nat} {fs : List Value} {v : Value} (dg : decode cc pc = .ok (.getfield 15, 3)) (he : h[i]? = some (.inr (3, fs))) (hv : fs[1]? = some v) (k : jG E x cells slots (pc + 3) lv (v :: st) h) : jG E x cells slots pc lv (.ref (E.1 + i) :: st) h := jG_get F (C := RX3) (T := TX3) (N := 9) 1 rfl jinX3 (by decide) (jm 193 (by decide +kernel) (by decide +kernel)) dg he hv k
theorem jp_X3_15 (F : jF E x RX3 cc nL d cm sm) {i : Nat} {fs : List Value} {v : Value} (hm : (jMe x).name = "<init>") (dg : decode cc pc = .ok (.putfield 15, 3)) (he : h[i]? = some (.inr (3, fs))) (hn : narrow (tyX3 1) v = v) (hfit : fits (tyX3 1) v = true) (hl : 1 < fs.length) (k : jG E x cells slots (pc + 3) lv st (h.set i (.inr (3, fs.set 1 v)))) : jG E x cells slots pc lv (v :: .ref (E.1 + i) :: st) h := jG_putF F (T := TX3) (N := 9) 1 tyX3 tyX3_ok nmX3 rfl jinX3 (by decide) (jm 193 (by decide +kernel) (by decide +kernel)) rfl rfl hm dg he hn hfit hl k
theorem jg_X3_18 (F : jF E x RX3 cc nL d cm sm) {i : Nat} {fs : List Value} {v : Value} (dg : decode cc pc = .ok (.getfield 18, 3)) (he : h[i]? = some (.inr (3, fs))) (hv : fs[2]? = some v) (k : jG E x cells slots (pc + 3) lv (v :: st) h) : jG E x cells slots pc lv (.ref (E.1 + i) :: st) h := jG_get F (C := RX3) (T := TX3) (N := 9) 2 rfl jinX3 (by decide) (jm 194 (by decide +kernel) (by decide +kernel)) dg he hv k
theorem jp_X3_18 (F : jF E x RX3 cc nL d cm sm) {i : Nat} {fs : List Value} {v : Value} (hm : (jMe x).name = "<init>") (dg : decode cc pc = .ok (.putfield 18, 3)) (he : h[i]? = some (.inr (3, fs))) (hn : narrow (tyX3 2) v = v) (hfit : fits (tyX3 2) v = true) (hl : 2 < fs.length) (k : jG E x cells slots (pc + 3) lv st (h.set i (.inr (3, fs.set 2 v)))) : jG E x cells slots pc lv (v :: .ref (E.1 + i) :: st) h := jG_putF F (T := TX3) (N := 9) 2 tyX3 tyX3_ok nmX3 rfl jinX3 (by decide) (jm 194 (by decide +kernel) (by decide +kernel)) rfl rfl hm dg he hn hfit hl k
theorem jg_X3_21 (F : jF E x RX3 cc nL d cm sm) {i : Nat} {fs : List Value} {v : Value} (dg : decode cc pc = .ok (.getfield 21, 3)) (he : h[i]? = some (.inr (3, fs))) (hv : fs[3]? = some v) (k : jG E x cells slots (pc + 3) lv (v :: st) h) : jG E x cells slots pc lv (.ref (E.1 + i) :: st) h := jG_get F (C := RX3) (T := TX3) (N := 9) 3 rfl jinX3 (by decide) (jm 195 (by decide +kernel) (by decide +kernel)) dg he hv k
theorem jp_X3_21 (F : jF E x RX3 cc nL d cm sm) {i : Nat} {fs : List Value} {v : Value} (dg : decode cc pc = .ok (.putfield 21, 3)) (he : h[i]? = some (.inr (3, fs))) (hn : narrow (tyX3 3) v = v) (hfit : fits (tyX3 3) v = true) (hl : 3 < fs.length) (k : jG E x cells slots (pc + 3) lv st (h.set i (.inr (3, fs.set 3 v)))) : jG E x cells slots pc lv (v :: .ref (E.1 + i) :: st) h := jG_put F (C := RX3) (T := TX3) (N := 9) 3 tyX3 tyX3_ok nmX3 rfl jinX3 (by decide) (jm 195 (by decide +kernel) (by decide +kernel)) rfl dg he hn hfit hl k
theorem jg_X3_25 (F : jF E x RX3 cc nL d cm sm) {i : Nat} {fs : List Value} {v : Value} (dg : decode cc pc = .ok (.getfield 25, 3)) (he : h[i]? = some (.inr (3, fs))) (hv : fs[4]? = some v) (k : jG E x cells slots (pc + 3) lv (v :: st) h) : jG E x cells slots pc lv (.ref (E.1 + i) :: st) h := jG_get F (C := RX3) (T := TX3) (N := 9) 4 rfl jinX3 (by decide) (jm 197 (by decide +kernel) (by decide +kernel)) dg he hv k
theorem jp_X3_25 (F : jF E x RX3 cc nL d cm sm) {i : Nat} {fs : List Value} {v : Value} (dg : decode cc pc = .ok (.putfield 25, 3)) (he : h[i]? = some (.inr (3, fs))) (hn : narrow (tyX3 4) v = v) (hfit : fits (tyX3 4) v = true) (hl : 4 < fs.length) (k : jG E x cells slots (pc + 3) lv st (h.set i (.inr (3, fs.set 4 v)))) : jG E x cells slots pc lv (v :: .ref (E.1 + i) :: st) h := jG_put F (C := RX3) (T := TX3) (N := 9) 4 tyX3 tyX3_ok nmX3 rfl jinX3 (by decide) (jm 197 (by decide +kernel) (by decide +kernel)) rfl dg he hn hfit hl k
theorem jg_X3_28 (F : jF E x RX3 cc nL d cm sm) {i : Nat} {fs : List Value} {v : Value} (dg : decode cc pc = .ok (.getfield 28, 3)) (he : h[i]? = some (.inr (3, fs))) (hv : fs[5]? = some v) (k : jG E x cells slots (pc + 3) lv (v :: st) h) : jG E x cells slots pc lv (.ref (E.1 + i) :: st) h := jG_get F (C := RX3) (T := TX3) (N := 9) 5 rfl jinX3 (by decide) (jm 199 (by decide +kernel) (by decide +kernel)) dg he hv k
theorem jp_X3_28 (F : jF E x RX3 cc nL d cm sm) {i : Nat} {fs : List Value} {v : Value} (dg : decode cc pc = .ok (.putfield 28, 3)) (he : h[i]? = some (.inr (3, fs))) (hn : narrow (tyX3 5) v = v) (hfit : fits (tyX3 5) v = true) (hl : 5 < fs.length) (k : jG E x cells slots (pc + 3) lv st (h.set i (.inr (3, fs.set 5 v)))) : jG E x cells slots pc lv (v :: .ref (E.1 + i) :: st) h := jG_put F (C := RX3) (T := TX3) (N := 9) 5 tyX3 tyX3_ok nmX3 rfl jinX3 (by decide) (jm 199 (by decide +kernel) (by decide +kernel)) rfl dg he hn hfit hl k
theorem jg_X3_31 (F : jF E x RX3 cc nL d cm sm) {i : Nat} {fs : List Value} {v : Value} (dg : decode cc pc = .ok (.getfield 31, 3)) (he : h[i]? = some (.inr (3, fs))) (hv : fs[6]? = some v) (k : jG E x cells slots (pc + 3) lv (v :: st) h) : jG E x cells slots pc lv (.ref (E.1 + i) :: st) h := jG_get F (C := RX3) (T := TX3) (N := 9) 6 rfl jinX3 (by decide) (jm 201 (by decide +kernel) (by decide +kernel)) dg he hv k
theorem jp_X3_31 (F : jF E x RX3 cc nL d cm sm) {i : Nat} {fs : List Value} {v : Value} (dg : decode cc pc = .ok (.putfield 31, 3)) (he : h[i]? = some (.inr (3, fs))) (hn : narrow (tyX3 6) v = v) (hfit : fits (tyX3 6) v = true) (hl : 6 < fs.length) (k : jG E x cells slots (pc + 3) lv st (h.set i (.inr (3, fs.set 6 v)))) : jG E x cells slots pc lv (v :: .ref (E.1 + i) :: st) h := jG_put F (C := RX3) (T := TX3) (N := 9) 6 tyX3 tyX3_ok nmX3 rfl jinX3 (by decide) (jm 201 (by decide +kernel) (by decide +kernel)) rfl dg he hn hfit hl k
theorem jg_X3_37 (F : jF E x RX3 cc nL d cm sm) {i : Nat} {fs : List Value} {v : Value} (dg : decode cc pc = .ok (.getfield 37, 3)) (he : h[i]? = some (.inr (3, fs))) (hv : fs[7]? = some v) (k : jG E x cells slots (pc + 3) lv (v :: st) h) : jG E x cells slots pc lv (.ref (E.1 + i) :: st) h := jG_get F (C := RX3) (T := TX3) (N := 9) 7 rfl jinX3 (by decide) (jm 202 (by decide +kernel) (by decide +kernel)) dg he hv k
theorem jp_X3_37 (F : jF E x RX3 cc nL d cm sm) {i : Nat} {fs : List Value} {v : Value} (hm : (jMe x).name = "<init>") (dg : decode cc pc = .ok (.putfield 37, 3)) (he : h[i]? = some (.inr (3, fs))) (hn : narrow (tyX3 7) v = v) (hfit : fits (tyX3 7) v = true) (hl : 7 < fs.length) (k : jG E x cells slots (pc + 3) lv st (h.set i (.inr (3, fs.set 7 v)))) : jG E x cells slots pc lv (v :: .ref (E.1 + i) :: st) h := jG_putF F (T := TX3) (N := 9) 7 tyX3 tyX3_ok nmX3 rfl jinX3 (by decide) (jm 202 (by decide +kernel) (by decide +kernel)) rfl rfl hm dg he hn hfit hl k
theorem jg_X3_41 (F : jF E x RX3 cc nL d cm sm) {i : Nat} {fs : List Value} {v : Value} (dg : decode cc pc = .ok (.getfield 41, 3)) (he : h[i]? = some (.inr (3, fs))) (hv : fs[8]? = some v) (k : jG E x cells slots (pc + 3) lv (v :: st) h) : jG E x cells slots pc lv (.ref (E.1 + i) :: st) h := jG_get F (C := RX3) (T := TX3) (N := 9) 8 rfl jinX3 (by decide) (jm 203 (by decide +kernel) (by decide +kernel)) dg he hv k
theorem jp_X3_41 (F : jF E x RX3 cc nL d cm sm) {i : Nat} {fs : List Value} {v : Value} (hm : (jMe x).name = "<init>") (dg : decode cc pc = .ok (.putfield 41, 3)) (he : h[i]? = some (.inr (3, fs))) (hn : narrow (tyX3 8) v = v) (hfit : fits (tyX3 8) v = true) (hl : 8 < fs.length) (k : jG E x cells slots (pc + 3) lv st (h.set i (.inr (3, fs.set 8 v)))) : jG E x cells slots pc lv (v :: .ref (E.1 + i) :: st) h := jG_putF F (T := TX3) (N := 9) 8 tyX3 tyX3_ok nmX3 rfl jinX3 (by decide) (jm 203 (by decide +kernel) (by decide +kernel)) rfl rfl hm dg he hn hfit hl k
theorem jg_X4_9 (F : jF E x RX4 cc nL d cm sm) {i : Nat} {fs : List Value} {v : Value} (dg : decode cc pc = .ok (.getfield 9, 3)) (he : h[i]? = some (.inr (4, fs))) (hv : fs[0]? = some v) (k : jG E x cells slots (pc + 3) lv (v :: st) h) : jG E x cells slots pc lv (.ref (E.1 + i) :: st) h := jG_get F (C := RX4) (T := TX4) (N := 3) 0 rfl jinX4 (by decide) (jm 229 (by decide +kernel) (by decide +kernel)) dg he hv k
theorem jp_X4_9 (F : jF E x RX4 cc nL d cm sm) {i : Nat} {fs : List Value} {v : Value} (hm : (jMe x).name = "<init>") (dg : decode cc pc = .ok (.putfield 9, 3)) (he : h[i]? = some (.inr (4, fs))) (hn : narrow (tyX4 0) v = v) (hfit : fits (tyX4 0) v = true) (hl : 0 < fs.length) (k : jG E x cells slots (pc + 3) lv st (h.set i (.inr (4, fs.set 0 v)))) : jG E x cells slots pc lv (v :: .ref (E.1 + i) :: st) h := jG_putF F (T := TX4) (N := 3) 0 tyX4 tyX4_ok nmX4 rfl jinX4 (by decide) (jm 229 (by decide +kernel) (by decide +kernel)) rfl rfl hm dg he hn hfit hl k
theorem jg_X4_15 (F : jF E x RX4 cc nL d cm sm) {i : Nat} {fs : List Value} {v : Value} (dg : decode cc pc = .ok (.getfield 15, 3)) (he : h[i]? = some (.inr (4, fs))) (hv : fs[1]? = some v) (k : jG E x cells slots (pc + 3) lv (v :: st) h) : jG E x cells slots pc lv (.ref (E.1 + i) :: st) h := jG_get F (C := RX4) (T := TX4) (N := 3) 1 rfl jinX4 (by decide) (jm 230 (by decide +kernel) (by decide +kernel)) dg he hv k
theorem jp_X4_15 (F : jF E x RX4 cc nL d cm sm) {i : Nat} {fs : List Value} {v : Value} (hm : (jMe x).name = "<init>") (dg : decode cc pc = .ok (.putfield 15, 3)) (he : h[i]? = some (.inr (4, fs))) (hn : narrow (tyX4 1) v = v) (hfit : fits (tyX4 1) v = true) (hl : 1 < fs.length) (k : jG E x cells slots (pc + 3) lv st (h.set i (.inr (4, fs.set 1 v)))) : jG E x cells slots pc lv (v :: .ref (E.1 + i) :: st) h := jG_putF F (T := TX4) (N := 3) 1 tyX4 tyX4_ok nmX4 rfl jinX4 (by decide) (jm 230 (by decide +kernel) (by decide +kernel)) rfl rfl hm dg he hn hfit hl k
theorem jg_X4_18 (F : jF E x RX4 cc nL d cm sm) {i : Nat} {fs : List Value} {v : Value} (dg : decode cc pc = .ok (.getfield 18, 3)) (he : h[i]? = some (.inr (4, fs))) (hv : fs[2]? = some v) (k : jG E x cells slots (pc + 3) lv (v :: st) h) : jG E x cells slots pc lv (.ref (E.1 + i) :: st) h := jG_get F (C := RX4) (T := TX4) (N := 3) 2 rfl jinX4 (by decide) (jm 231 (by decide +kernel) (by decide +kernel)) dg he hv k
theorem jp_X4_18 (F : jF E x RX4 cc nL d cm sm) {i : Nat} {fs : List Value} {v : Value} (hm : (jMe x).name = "<init>") (dg : decode cc pc = .ok (.putfield 18, 3)) (he : h[i]? = some (.inr (4, fs))) (hn : narrow (tyX4 2) v = v) (hfit : fits (tyX4 2) v = true) (hl : 2 < fs.length) (k : jG E x cells slots (pc + 3) lv st (h.set i (.inr (4, fs.set 2 v)))) : jG E x cells slots pc lv (v :: .ref (E.1 + i) :: st) h := jG_putF F (T := TX4) (N := 3) 2 tyX4 tyX4_ok nmX4 rfl jinX4 (by decide) (jm 231 (by decide +kernel) (by decide +kernel)) rfl rfl hm dg he hn hfit hl k
theorem jg_X5_10 (F : jF E x RX5 cc nL d cm sm) {i : Nat} {fs : List Value} {v : Value} (dg : decode cc pc = .ok (.getfield 10, 3)) (he : h[i]? = some (.inr (5, fs))) (hv : fs[0]? = some v) (k : jG E x cells slots (pc + 3) lv (v :: st) h) : jG E x cells slots pc lv (.ref (E.1 + i) :: st) h := jG_get F (C := RX5) (T := TX5) (N := 6) 0 rfl jinX5 (by decide) (jm 240 (by decide +kernel) (by decide +kernel)) dg he hv k
theorem jp_X5_10 (F : jF E x RX5 cc nL d cm sm) {i : Nat} {fs : List Value} {v : Value} (hm : (jMe x).name = "<init>") (dg : decode cc pc = .ok (.putfield 10, 3)) (he : h[i]? = some (.inr (5, fs))) (hn : narrow (tyX5 0) v = v) (hfit : fits (tyX5 0) v = true) (hl : 0 < fs.length) (k : jG E x cells slots (pc + 3) lv st (h.set i (.inr (5, fs.set 0 v)))) : jG E x cells slots pc lv (v :: .ref (E.1 + i) :: st) h := jG_putF F (T := TX5) (N := 6) 0 tyX5 tyX5_ok nmX5 rfl jinX5 (by decide) (jm 240 (by decide +kernel) (by decide +kernel)) rfl rfl hm dg he hn hfit hl k
theorem jg_X5_19 (F : jF E x RX5 cc nL d cm sm) {i : Nat} {fs : List Value} {v : Value} (dg : decode cc pc = .ok (.getfield 19, 3)) (he : h[i]? = some (.inr (5, fs))) (hv : fs[1]? = some v) (k : jG E x cells slots (pc + 3) lv (v :: st) h) : jG E x cells slots pc lv (.ref (E.1 + i) :: st) h := jG_get F (C := RX5) (T := TX5) (N := 6) 1 rfl jinX5 (by decide) (jm 241 (by decide +kernel) (by decide +kernel)) dg he hv k
theorem jp_X5_19 (F : jF E x RX5 cc nL d cm sm) {i : Nat} {fs : List Value} {v : Value} (hm : (jMe x).name = "<init>") (dg : decode cc pc = .ok (.putfield 19, 3)) (he : h[i]? = some (.inr (5, fs))) (hn : narrow (tyX5 1) v = v) (hfit : fits (tyX5 1) v = true) (hl : 1 < fs.length) (k : jG E x cells slots (pc + 3) lv st (h.set i (.inr (5, fs.set 1 v)))) : jG E x cells slots pc lv (v :: .ref (E.1 + i) :: st) h := jG_putF F (T := TX5) (N := 6) 1 tyX5 tyX5_ok nmX5 rfl jinX5 (by decide) (jm 241 (by decide +kernel) (by decide +kernel)) rfl rfl hm dg he hn hfit hl k
theorem jg_X5_26 (F : jF E x RX5 cc nL d cm sm) {i : Nat} {fs : List Value} {v : Value} (dg : decode cc pc = .ok (.getfield 26, 3)) (he : h[i]? = some (.inr (5, fs))) (hv : fs[2]? = some v) (k : jG E x cells slots (pc + 3) lv (v :: st) h) : jG E x cells slots pc lv (.ref (E.1 + i) :: st) h := jG_get F (C := RX5) (T := TX5) (N := 6) 2 rfl jinX5 (by decide) (jm 242 (by decide +kernel) (by decide +kernel)) dg he hv k
theorem jp_X5_26 (F : jF E x RX5 cc nL d cm sm) {i : Nat} {fs : List Value} {v : Value} (hm : (jMe x).name = "<init>") (dg : decode cc pc = .ok (.putfield 26, 3)) (he : h[i]? = some (.inr (5, fs))) (hn : narrow (tyX5 2) v = v) (hfit : fits (tyX5 2) v = true) (hl : 2 < fs.length) (k : jG E x cells slots (pc + 3) lv st (h.set i (.inr (5, fs.set 2 v)))) : jG E x cells slots pc lv (v :: .ref (E.1 + i) :: st) h := jG_putF F (T := TX5) (N := 6) 2 tyX5 tyX5_ok nmX5 rfl jinX5 (by decide) (jm 242 (by decide +kernel) (by decide +kernel)) rfl rfl hm dg he hn hfit hl k
theorem jg_X5_33 (F : jF E x RX5 cc nL d cm sm) {i : Nat} {fs : List Value} {v : Value} (dg : decode cc pc = .ok (.getfield 33, 3)) (he : h[i]? = some (.inr (5, fs))) (hv : fs[3]? = some v) (k : jG E x cells slots (pc + 3) lv (v :: st) h) : jG E x cells slots pc lv (.ref (E.1 + i) :: st) h := jG_get F (C := RX5) (T := TX5) (N := 6) 3 rfl jinX5 (by decide) (jm 243 (by decide +kernel) (by decide +kernel)) dg he hv k
theorem jp_X5_33 (F : jF E x RX5 cc nL d cm sm) {i : Nat} {fs : List Value} {v : Value} (hm : (jMe x).name = "<init>") (dg : decode cc pc = .ok (.putfield 33, 3)) (he : h[i]? = some (.inr (5, fs))) (hn : narrow (tyX5 3) v = v) (hfit : fits (tyX5 3) v = true) (hl : 3 < fs.length) (k : jG E x cells slots (pc + 3) lv st (h.set i (.inr (5, fs.set 3 v)))) : jG E x cells slots pc lv (v :: .ref (E.1 + i) :: st) h := jG_putF F (T := TX5) (N := 6) 3 tyX5 tyX5_ok nmX5 rfl jinX5 (by decide) (jm 243 (by decide +kernel) (by decide +kernel)) rfl rfl hm dg he hn hfit hl k
theorem jg_X5_37 (F : jF E x RX5 cc nL d cm sm) {i : Nat} {fs : List Value} {v : Value} (dg : decode cc pc = .ok (.getfield 37, 3)) (he : h[i]? = some (.inr (5, fs))) (hv : fs[4]? = some v) (k : jG E x cells slots (pc + 3) lv (v :: st) h) : jG E x cells slots pc lv (.ref (E.1 + i) :: st) h := jG_get F (C := RX5) (T := TX5) (N := 6) 4 rfl jinX5 (by decide) (jm 244 (by decide +kernel) (by decide +kernel)) dg he hv k
theorem jp_X5_37 (F : jF E x RX5 cc nL d cm sm) {i : Nat} {fs : List Value} {v : Value} (hm : (jMe x).name = "<init>") (dg : decode cc pc = .ok (.putfield 37, 3)) (he : h[i]? = some (.inr (5, fs))) (hn : narrow (tyX5 4) v = v) (hfit : fits (tyX5 4) v = true) (hl : 4 < fs.length) (k : jG E x cells slots (pc + 3) lv st (h.set i (.inr (5, fs.set 4 v)))) : jG E x cells slots pc lv (v :: .ref (E.1 + i) :: st) h := jG_putF F (T := TX5) (N := 6) 4 tyX5 tyX5_ok nmX5 rfl jinX5 (by decide) (jm 244 (by decide +kernel) (by decide +kernel)) rfl rfl hm dg he hn hfit hl k
theorem jg_X5_41 (F : jF E x RX5 cc nL d cm sm) {i : Nat} {fs : List Value} {v : Value} (dg : decode cc pc = .ok (.getfield 41, 3)) (he : h[i]? = some (.inr (5, fs))) (hv : fs[5]? = some v) (k : jG E x cells slots (pc + 3) lv (v :: st) h) : jG E x cells slots pc lv (.ref (E.1 + i) :: st) h := jG_get F (C := RX5) (T := TX5) (N := 6) 5 rfl jinX5 (by decide) (jm 245 (by decide +kernel) (by decide +kernel)) dg he hv k
theorem jp_X5_41 (F : jF E x RX5 cc nL d cm sm) {i : Nat} {fs : List Value} {v : Value} (dg : decode cc pc = .ok (.putfield 41, 3)) (he : h[i]? = some (.inr (5, fs))) (hn : narrow (tyX5 5) v = v) (hfit : fits (tyX5 5) v = true) (hl : 5 < fs.length) (k : jG E x cells slots (pc + 3) lv st (h.set i (.inr (5, fs.set 5 v)))) : jG E x cells slots pc lv (v :: .ref (E.1 + i) :: st) h := jG_put F (C := RX5) (T := TX5) (N := 6) 5 tyX5 tyX5_ok nmX5 rfl jinX5 (by decide) (jm 245 (by decide +kernel) (by decide +kernel)) rfl dg he hn hfit hl k
theorem jg_X6_7 (F : jF E x RX6 cc nL d cm sm) {i : Nat} {fs : List Value} {v : Value} (dg : decode cc pc = .ok (.getfield 7, 3)) (he : h[i]? = some (.inr (6, fs))) (hv : fs[0]? = some v) (k : jG E x cells slots (pc + 3) lv (v :: st) h) : jG E x cells slots pc lv (.ref (E.1 + i) :: st) h := jG_get F (C := RX6) (T := TX6) (N := 14) 0 rfl jinX6 (by decide) (jm 632 (by decide +kernel) (by decide +kernel)) dg he hv k
theorem jp_X6_7 (F : jF E x RX6 cc nL d cm sm) {i : Nat} {fs : List Value} {v : Value} (hm : (jMe x).name = "<init>") (dg : decode cc pc = .ok (.putfield 7, 3)) (he : h[i]? = some (.inr (6, fs))) (hn : narrow (tyX6 0) v = v) (hfit : fits (tyX6 0) v = true) (hl : 0 < fs.length) (k : jG E x cells slots (pc + 3) lv st (h.set i (.inr (6, fs.set 0 v)))) : jG E x cells slots pc lv (v :: .ref (E.1 + i) :: st) h := jG_putF F (T := TX6) (N := 14) 0 tyX6 tyX6_ok nmX6 rfl jinX6 (by decide) (jm 632 (by decide +kernel) (by decide +kernel)) rfl rfl hm dg he hn hfit hl k
theorem jg_X6_13 (F : jF E x RX6 cc nL d cm sm) {i : Nat} {fs : List Value} {v : Value} (dg : decode cc pc = .ok (.getfield 13, 3)) (he : h[i]? = some (.inr (6, fs))) (hv : fs[1]? = some v) (k : jG E x cells slots (pc + 3) lv (v :: st) h) : jG E x cells slots pc lv (.ref (E.1 + i) :: st) h := jG_get F (C := RX6) (T := TX6) (N := 14) 1 rfl jinX6 (by decide) (jm 633 (by decide +kernel) (by decide +kernel)) dg he hv k
theorem jp_X6_13 (F : jF E x RX6 cc nL d cm sm) {i : Nat} {fs : List Value} {v : Value} (hm : (jMe x).name = "<init>") (dg : decode cc pc = .ok (.putfield 13, 3)) (he : h[i]? = some (.inr (6, fs))) (hn : narrow (tyX6 1) v = v) (hfit : fits (tyX6 1) v = true) (hl : 1 < fs.length) (k : jG E x cells slots (pc + 3) lv st (h.set i (.inr (6, fs.set 1 v)))) : jG E x cells slots pc lv (v :: .ref (E.1 + i) :: st) h := jG_putF F (T := TX6) (N := 14) 1 tyX6 tyX6_ok nmX6 rfl jinX6 (by decide) (jm 633 (by decide +kernel) (by decide +kernel)) rfl rfl hm dg he hn hfit hl k
theorem jg_X6_16 (F : jF E x RX6 cc nL d cm sm) {i : Nat} {fs : List Value} {v : Value} (dg : decode cc pc = .ok (.getfield 16, 3)) (he : h[i]? = some (.inr (6, fs))) (hv : fs[2]? = some v) (k : jG E x cells slots (pc + 3) lv (v :: st) h) : jG E x cells slots pc lv (.ref (E.1 + i) :: st) h := jG_get F (C := RX6) (T := TX6) (N := 14) 2 rfl jinX6 (by decide) (jm 634 (by decide +kernel) (by decide +kernel)) dg he hv k
theorem jp_X6_16 (F : jF E x RX6 cc nL d cm sm) {i : Nat} {fs : List Value} {v : Value} (hm : (jMe x).name = "<init>") (dg : decode cc pc = .ok (.putfield 16, 3)) (he : h[i]? = some (.inr (6, fs))) (hn : narrow (tyX6 2) v = v) (hfit : fits (tyX6 2) v = true) (hl : 2 < fs.length) (k : jG E x cells slots (pc + 3) lv st (h.set i (.inr (6, fs.set 2 v)))) : jG E x cells slots pc lv (v :: .ref (E.1 + i) :: st) h := jG_putF F (T := TX6) (N := 14) 2 tyX6 tyX6_ok nmX6 rfl jinX6 (by decide) (jm 634 (by decide +kernel) (by decide +kernel)) rfl rfl hm dg he hn hfit hl k
theorem jg_X6_205 (F : jF E x RX6 cc nL d cm sm) {i : Nat} {fs : List Value} {v : Value} (dg : decode cc pc = .ok (.getfield 205, 3)) (he : h[i]? = some (.inr (6, fs))) (hv : fs[3]? = some v) (k : jG E x cells slots (pc + 3) lv (v :: st) h) : jG E x cells slots pc lv (.ref (E.1 + i) :: st) h := jG_get F (C := RX6) (T := TX6) (N := 14) 3 rfl jinX6 (by decide) (jm 635 (by decide +kernel) (by decide +kernel)) dg he hv k
theorem jp_X6_205 (F : jF E x RX6 cc nL d cm sm) {i : Nat} {fs : List Value} {v : Value} (dg : decode cc pc = .ok (.putfield 205, 3)) (he : h[i]? = some (.inr (6, fs))) (hn : narrow (tyX6 3) v = v) (hfit : fits (tyX6 3) v = true) (hl : 3 < fs.length) (k : jG E x cells slots (pc + 3) lv st (h.set i (.inr (6, fs.set 3 v)))) : jG E x cells slots pc lv (v :: .ref (E.1 + i) :: st) h := jG_put F (C := RX6) (T := TX6) (N := 14) 3 tyX6 tyX6_ok nmX6 rfl jinX6 (by decide) (jm 635 (by decide +kernel) (by decide +kernel)) rfl dg he hn hfit hl k
theorem jg_X6_37 (F : jF E x RX6 cc nL d cm sm) {i : Nat} {fs : List Value} {v : Value} (dg : decode cc pc = .ok (.getfield 37, 3)) (he : h[i]? = some (.inr (6, fs))) (hv : fs[4]? = some v) (k : jG E x cells slots (pc + 3) lv (v :: st) h) : jG E x cells slots pc lv (.ref (E.1 + i) :: st) h := jG_get F (C := RX6) (T := TX6) (N := 14) 4 rfl jinX6 (by decide) (jm 636 (by decide +kernel) (by decide +kernel)) dg he hv k
theorem jp_X6_37 (F : jF E x RX6 cc nL d cm sm) {i : Nat} {fs : List Value} {v : Value} (dg : decode cc pc = .ok (.putfield 37, 3)) (he : h[i]? = some (.inr (6, fs))) (hn : narrow (tyX6 4) v = v) (hfit : fits (tyX6 4) v = true) (hl : 4 < fs.length) (k : jG E x cells slots (pc + 3) lv st (h.set i (.inr (6, fs.set 4 v)))) : jG E x cells slots pc lv (v :: .ref (E.1 + i) :: st) h := jG_put F (C := RX6) (T := TX6) (N := 14) 4 tyX6 tyX6_ok nmX6 rfl jinX6 (by decide) (jm 636 (by decide +kernel) (by decide +kernel)) rfl dg he hn hfit hl k
theorem jg_X6_179 (F : jF E x RX6 cc nL d cm sm) {i : Nat} {fs : List Value} {v : Value} (dg : decode cc pc = .ok (.getfield 179, 3)) (he : h[i]? = some (.inr (6, fs))) (hv : fs[5]? = some v) (k : jG E x cells slots (pc + 3) lv (v :: st) h) : jG E x cells slots pc lv (.ref (E.1 + i) :: st) h := jG_get F (C := RX6) (T := TX6) (N := 14) 5 rfl jinX6 (by decide) (jm 637 (by decide +kernel) (by decide +kernel)) dg he hv k
theorem jp_X6_179 (F : jF E x RX6 cc nL d cm sm) {i : Nat} {fs : List Value} {v : Value} (dg : decode cc pc = .ok (.putfield 179, 3)) (he : h[i]? = some (.inr (6, fs))) (hn : narrow (tyX6 5) v = v) (hfit : fits (tyX6 5) v = true) (hl : 5 < fs.length) (k : jG E x cells slots (pc + 3) lv st (h.set i (.inr (6, fs.set 5 v)))) : jG E x cells slots pc lv (v :: .ref (E.1 + i) :: st) h := jG_put F (C := RX6) (T := TX6) (N := 14) 5 tyX6 tyX6_ok nmX6 rfl jinX6 (by decide) (jm 637 (by decide +kernel) (by decide +kernel)) rfl dg he hn hfit hl k
theorem jg_X6_189 (F : jF E x RX6 cc nL d cm sm) {i : Nat} {fs : List Value} {v : Value} (dg : decode cc pc = .ok (.getfield 189, 3)) (he : h[i]? = some (.inr (6, fs))) (hv : fs[6]? = some v) (k : jG E x cells slots (pc + 3) lv (v :: st) h) : jG E x cells slots pc lv (.ref (E.1 + i) :: st) h := jG_get F (C := RX6) (T := TX6) (N := 14) 6 rfl jinX6 (by decide) (jm 638 (by decide +kernel) (by decide +kernel)) dg he hv k
theorem jp_X6_189 (F : jF E x RX6 cc nL d cm sm) {i : Nat} {fs : List Value} {v : Value} (dg : decode cc pc = .ok (.putfield 189, 3)) (he : h[i]? = some (.inr (6, fs))) (hn : narrow (tyX6 6) v = v) (hfit : fits (tyX6 6) v = true) (hl : 6 < fs.length) (k : jG E x cells slots (pc + 3) lv st (h.set i (.inr (6, fs.set 6 v)))) : jG E x cells slots pc lv (v :: .ref (E.1 + i) :: st) h := jG_put F (C := RX6) (T := TX6) (N := 14) 6 tyX6 tyX6_ok nmX6 rfl jinX6 (by decide) (jm 638 (by decide +kernel) (by decide +kernel)) rfl dg he hn hfit hl k
theorem jg_X6_183 (F : jF E x RX6 cc nL d cm sm) {i : Nat} {fs : List Value} {v : Value} (dg : decode cc pc = .ok (.getfield 183, 3)) (he : h[i]? = some (.inr (6, fs))) (hv : fs[7]? = some v) (k : jG E x cells slots (pc + 3) lv (v :: st) h) : jG E x cells slots pc lv (.ref (E.1 + i) :: st) h := jG_get F (C := RX6) (T := TX6) (N := 14) 7 rfl jinX6 (by decide) (jm 639 (by decide +kernel) (by decide +kernel)) dg he hv k
theorem jp_X6_183 (F : jF E x RX6 cc nL d cm sm) {i : Nat} {fs : List Value} {v : Value} (dg : decode cc pc = .ok (.putfield 183, 3)) (he : h[i]? = some (.inr (6, fs))) (hn : narrow (tyX6 7) v = v) (hfit : fits (tyX6 7) v = true) (hl : 7 < fs.length) (k : jG E x cells slots (pc + 3) lv st (h.set i (.inr (6, fs.set 7 v)))) : jG E x cells slots pc lv (v :: .ref (E.1 + i) :: st) h := jG_put F (C := RX6) (T := TX6) (N := 14) 7 tyX6 tyX6_ok nmX6 rfl jinX6 (by decide) (jm 639 (by decide +kernel) (by decide +kernel)) rfl dg he hn hfit hl k
theorem jg_X6_196 (F : jF E x RX6 cc nL d cm sm) {i : Nat} {fs : List Value} {v : Value} (dg : decode cc pc = .ok (.getfield 196, 3)) (he : h[i]? = some (.inr (6, fs))) (hv : fs[8]? = some v) (k : jG E x cells slots (pc + 3) lv (v :: st) h) : jG E x cells slots pc lv (.ref (E.1 + i) :: st) h := jG_get F (C := RX6) (T := TX6) (N := 14) 8 rfl jinX6 (by decide) (jm 640 (by decide +kernel) (by decide +kernel)) dg he hv k
theorem jp_X6_196 (F : jF E x RX6 cc nL d cm sm) {i : Nat} {fs : List Value} {v : Value} (dg : decode cc pc = .ok (.putfield 196, 3)) (he : h[i]? = some (.inr (6, fs))) (hn : narrow (tyX6 8) v = v) (hfit : fits (tyX6 8) v = true) (hl : 8 < fs.length) (k : jG E x cells slots (pc + 3) lv st (h.set i (.inr (6, fs.set 8 v)))) : jG E x cells slots pc lv (v :: .ref (E.1 + i) :: st) h := jG_put F (C := RX6) (T := TX6) (N := 14) 8 tyX6 tyX6_ok nmX6 rfl jinX6 (by decide) (jm 640 (by decide +kernel) (by decide +kernel)) rfl dg he hn hfit hl k
theorem jg_X6_19 (F : jF E x RX6 cc nL d cm sm) {i : Nat} {fs : List Value} {v : Value} (dg : decode cc pc = .ok (.getfield 19, 3)) (he : h[i]? = some (.inr (6, fs))) (hv : fs[9]? = some v) (k : jG E x cells slots (pc + 3) lv (v :: st) h) : jG E x cells slots pc lv (.ref (E.1 + i) :: st) h := jG_get F (C := RX6) (T := TX6) (N := 14) 9 rfl jinX6 (by decide) (jm 641 (by decide +kernel) (by decide +kernel)) dg he hv k
theorem jp_X6_19 (F : jF E x RX6 cc nL d cm sm) {i : Nat} {fs : List Value} {v : Value} (hm : (jMe x).name = "<init>") (dg : decode cc pc = .ok (.putfield 19, 3)) (he : h[i]? = some (.inr (6, fs))) (hn : narrow (tyX6 9) v = v) (hfit : fits (tyX6 9) v = true) (hl : 9 < fs.length) (k : jG E x cells slots (pc + 3) lv st (h.set i (.inr (6, fs.set 9 v)))) : jG E x cells slots pc lv (v :: .ref (E.1 + i) :: st) h := jG_putF F (T := TX6) (N := 14) 9 tyX6 tyX6_ok nmX6 rfl jinX6 (by decide) (jm 641 (by decide +kernel) (by decide +kernel)) rfl rfl hm dg he hn hfit hl k
theorem jg_X6_22 (F : jF E x RX6 cc nL d cm sm) {i : Nat} {fs : List Value} {v : Value} (dg : decode cc pc = .ok (.getfield 22, 3)) (he : h[i]? = some (.inr (6, fs))) (hv : fs[10]? = some v) (k : jG E x cells slots (pc + 3) lv (v :: st) h) : jG E x cells slots pc lv (.ref (E.1 + i) :: st) h := jG_get F (C := RX6) (T := TX6) (N := 14) 10 rfl jinX6 (by decide) (jm 642 (by decide +kernel) (by decide +kernel)) dg he hv k
theorem jp_X6_22 (F : jF E x RX6 cc nL d cm sm) {i : Nat} {fs : List Value} {v : Value} (hm : (jMe x).name = "<init>") (dg : decode cc pc = .ok (.putfield 22, 3)) (he : h[i]? = some (.inr (6, fs))) (hn : narrow (tyX6 10) v = v) (hfit : fits (tyX6 10) v = true) (hl : 10 < fs.length) (k : jG E x cells slots (pc + 3) lv st (h.set i (.inr (6, fs.set 10 v)))) : jG E x cells slots pc lv (v :: .ref (E.1 + i) :: st) h := jG_putF F (T := TX6) (N := 14) 10 tyX6 tyX6_ok nmX6 rfl jinX6 (by decide) (jm 642 (by decide +kernel) (by decide +kernel)) rfl rfl hm dg he hn hfit hl k
theorem jg_X6_25 (F : jF E x RX6 cc nL d cm sm) {i : Nat} {fs : List Value} {v : Value} (dg : decode cc pc = .ok (.getfield 25, 3)) (he : h[i]? = some (.inr (6, fs))) (hv : fs[11]? = some v) (k : jG E x cells slots (pc + 3) lv (v :: st) h) : jG E x cells slots pc lv (.ref (E.1 + i) :: st) h := jG_get F (C := RX6) (T := TX6) (N := 14) 11 rfl jinX6 (by decide) (jm 643 (by decide +kernel) (by decide +kernel)) dg he hv k
theorem jp_X6_25 (F : jF E x RX6 cc nL d cm sm) {i : Nat} {fs : List Value} {v : Value} (hm : (jMe x).name = "<init>") (dg : decode cc pc = .ok (.putfield 25, 3)) (he : h[i]? = some (.inr (6, fs))) (hn : narrow (tyX6 11) v = v) (hfit : fits (tyX6 11) v = true) (hl : 11 < fs.length) (k : jG E x cells slots (pc + 3) lv st (h.set i (.inr (6, fs.set 11 v)))) : jG E x cells slots pc lv (v :: .ref (E.1 + i) :: st) h := jG_putF F (T := TX6) (N := 14) 11 tyX6 tyX6_ok nmX6 rfl jinX6 (by decide) (jm 643 (by decide +kernel) (by decide +kernel)) rfl rfl hm dg he hn hfit hl k
theorem jg_X6_28 (F : jF E x RX6 cc nL d cm sm) {i : Nat} {fs : List Value} {v : Value} (dg : decode cc pc = .ok (.getfield 28, 3)) (he : h[i]? = some (.inr (6, fs))) (hv : fs[12]? = some v) (k : jG E x cells slots (pc + 3) lv (v :: st) h) : jG E x cells slots pc lv (.ref (E.1 + i) :: st) h := jG_get F (C := RX6) (T := TX6) (N := 14) 12 rfl jinX6 (by decide) (jm 644 (by decide +kernel) (by decide +kernel)) dg he hv k
theorem jp_X6_28 (F : jF E x RX6 cc nL d cm sm) {i : Nat} {fs : List Value} {v : Value} (hm : (jMe x).name = "<init>") (dg : decode cc pc = .ok (.putfield 28, 3)) (he : h[i]? = some (.inr (6, fs))) (hn : narrow (tyX6 12) v = v) (hfit : fits (tyX6 12) v = true) (hl : 12 < fs.length) (k : jG E x cells slots (pc + 3) lv st (h.set i (.inr (6, fs.set 12 v)))) : jG E x cells slots pc lv (v :: .ref (E.1 + i) :: st) h := jG_putF F (T := TX6) (N := 14) 12 tyX6 tyX6_ok nmX6 rfl jinX6 (by decide) (jm 644 (by decide +kernel) (by decide +kernel)) rfl rfl hm dg he hn hfit hl k
theorem jg_X6_31 (F : jF E x RX6 cc nL d cm sm) {i : Nat} {fs : List Value} {v : Value} (dg : decode cc pc = .ok (.getfield 31, 3)) (he : h[i]? = some (.inr (6, fs))) (hv : fs[13]? = some v) (k : jG E x cells slots (pc + 3) lv (v :: st) h) : jG E x cells slots pc lv (.ref (E.1 + i) :: st) h := jG_get F (C := RX6) (T := TX6) (N := 14) 13 rfl jinX6 (by decide) (jm 645 (by decide +kernel) (by decide +kernel)) dg he hv k
theorem jp_X6_31 (F : jF E x RX6 cc nL d cm sm) {i : Nat} {fs : List Value} {v : Value} (hm : (jMe x).name = "<init>") (dg : decode cc pc = .ok (.putfield 31, 3)) (he : h[i]? = some (.inr (6, fs))) (hn : narrow (tyX6 13) v = v) (hfit : fits (tyX6 13) v = true) (hl : 13 < fs.length) (k : jG E x cells slots (pc + 3) lv st (h.set i (.inr (6, fs.set 13 v)))) : jG E x cells slots pc lv (v :: .ref (E.1 + i) :: st) h := jG_putF F (T := TX6) (N := 14) 13 tyX6 tyX6_ok nmX6 rfl jinX6 (by decide) (jm 645 (by decide +kernel) (by decide +kernel)) rfl rfl hm dg he hn hfit hl k
theorem jg_X0_55 (F : jF E x RX0 cc nL d cm sm) {i : Nat} {fs : List Value} {v : Value} (dg : decode cc pc = .ok (.getfield 55, 3)) (he : h[i]? = some (.inr (1, fs))) (hv : fs[0]? = some v) (k : jG E x cells slots (pc + 3) lv (v :: st) h) : jG E x cells slots pc lv (.ref (E.1 + i) :: st) h := jG_getN (host := "JumpDiscs") F (C := RX1) (T := TX1) (N := 6) 0 rfl jinX1 (by decide) (jmn 106 (by decide +kernel) (by decide +kernel)) dg he hv k
theorem jg_X5_98 (F : jF E x RX5 cc nL d cm sm) {i : Nat} {fs : List Value} {v : Value} (dg : decode cc pc = .ok (.getfield 98, 3)) (he : h[i]? = some (.inr (1, fs))) (hv : fs[0]? = some v) (k : jG E x cells slots (pc + 3) lv (v :: st) h) : jG E x cells slots pc lv (.ref (E.1 + i) :: st) h := jG_getN (host := "JumpDiscs") F (C := RX1) (T := TX1) (N := 6) 0 rfl jinX1 (by decide) (jmn 107 (by decide +kernel) (by decide +kernel)) dg he hv k
theorem jg_X2_69 (F : jF E x RX2 cc nL d cm sm) {i : Nat} {fs : List Value} {v : Value} (dg : decode cc pc = .ok (.getfield 69, 3)) (he : h[i]? = some (.inr (1, fs))) (hv : fs[0]? = some v) (k : jG E x cells slots (pc + 3) lv (v :: st) h) : jG E x cells slots pc lv (.ref (E.1 + i) :: st) h := jG_getN (host := "JumpDiscs") F (C := RX1) (T := TX1) (N := 6) 0 rfl jinX1 (by decide) (jmn 108 (by decide +kernel) (by decide +kernel)) dg he hv k
theorem jg_X0_59 (F : jF E x RX0 cc nL d cm sm) {i : Nat} {fs : List Value} {v : Value} (dg : decode cc pc = .ok (.getfield 59, 3)) (he : h[i]? = some (.inr (1, fs))) (hv : fs[1]? = some v) (k : jG E x cells slots (pc + 3) lv (v :: st) h) : jG E x cells slots pc lv (.ref (E.1 + i) :: st) h := jG_getN (host := "JumpDiscs") F (C := RX1) (T := TX1) (N := 6) 1 rfl jinX1 (by decide) (jmn 110 (by decide +kernel) (by decide +kernel)) dg he hv k
theorem jg_X5_102 (F : jF E x RX5 cc nL d cm sm) {i : Nat} {fs : List Value} {v : Value} (dg : decode cc pc = .ok (.getfield 102, 3)) (he : h[i]? = some (.inr (1, fs))) (hv : fs[1]? = some v) (k : jG E x cells slots (pc + 3) lv (v :: st) h) : jG E x cells slots pc lv (.ref (E.1 + i) :: st) h := jG_getN (host := "JumpDiscs") F (C := RX1) (T := TX1) (N := 6) 1 rfl jinX1 (by decide) (jmn 111 (by decide +kernel) (by decide +kernel)) dg he hv k
theorem jg_X2_73 (F : jF E x RX2 cc nL d cm sm) {i : Nat} {fs : List Value} {v : Value} (dg : decode cc pc = .ok (.getfield 73, 3)) (he : h[i]? = some (.inr (1, fs))) (hv : fs[1]? = some v) (k : jG E x cells slots (pc + 3) lv (v :: st) h) : jG E x cells slots pc lv (.ref (E.1 + i) :: st) h := jG_getN (host := "JumpDiscs") F (C := RX1) (T := TX1) (N := 6) 1 rfl jinX1 (by decide) (jmn 112 (by decide +kernel) (by decide +kernel)) dg he hv k
theorem jg_X5_111 (F : jF E x RX5 cc nL d cm sm) {i : Nat} {fs : List Value} {v : Value} (dg : decode cc pc = .ok (.getfield 111, 3)) (he : h[i]? = some (.inr (1, fs))) (hv : fs[2]? = some v) (k : jG E x cells slots (pc + 3) lv (v :: st) h) : jG E x cells slots pc lv (.ref (E.1 + i) :: st) h := jG_getN (host := "JumpDiscs") F (C := RX1) (T := TX1) (N := 6) 2 rfl jinX1 (by decide) (jmn 114 (by decide +kernel) (by decide +kernel)) dg he hv k
theorem jg_X5_221 (F : jF E x RX5 cc nL d cm sm) {i : Nat} {fs : List Value} {v : Value} (dg : decode cc pc = .ok (.getfield 221, 3)) (he : h[i]? = some (.inr (1, fs))) (hv : fs[3]? = some v) (k : jG E x cells slots (pc + 3) lv (v :: st) h) : jG E x cells slots pc lv (.ref (E.1 + i) :: st) h := jG_getN (host := "JumpDiscs") F (C := RX1) (T := TX1) (N := 6) 3 rfl jinX1 (by decide) (jmn 116 (by decide +kernel) (by decide +kernel)) dg he hv k
theorem jp_X5_221 (F : jF E x RX5 cc nL d cm sm) {i : Nat} {fs : List Value} {v : Value} (dg : decode cc pc = .ok (.putfield 221, 3)) (he : h[i]? = some (.inr (1, fs))) (hn : narrow (tyX1 3) v = v) (hfit : fits (tyX1 3) v = true) (hl : 3 < fs.length) (k : jG E x cells slots (pc + 3) lv st (h.set i (.inr (1, fs.set 3 v)))) : jG E x cells slots pc lv (v :: .ref (E.1 + i) :: st) h := jG_putN (host := "JumpDiscs") F (C := RX1) (T := TX1) (N := 6) 3 tyX1 tyX1_ok nmX1 rfl jinX1 (by decide) (jmn 116 (by decide +kernel) (by decide +kernel)) rfl dg he hn hfit hl k
theorem jg_X5_224 (F : jF E x RX5 cc nL d cm sm) {i : Nat} {fs : List Value} {v : Value} (dg : decode cc pc = .ok (.getfield 224, 3)) (he : h[i]? = some (.inr (1, fs))) (hv : fs[4]? = some v) (k : jG E x cells slots (pc + 3) lv (v :: st) h) : jG E x cells slots pc lv (.ref (E.1 + i) :: st) h := jG_getN (host := "JumpDiscs") F (C := RX1) (T := TX1) (N := 6) 4 rfl jinX1 (by decide) (jmn 118 (by decide +kernel) (by decide +kernel)) dg he hv k
theorem jp_X5_224 (F : jF E x RX5 cc nL d cm sm) {i : Nat} {fs : List Value} {v : Value} (dg : decode cc pc = .ok (.putfield 224, 3)) (he : h[i]? = some (.inr (1, fs))) (hn : narrow (tyX1 4) v = v) (hfit : fits (tyX1 4) v = true) (hl : 4 < fs.length) (k : jG E x cells slots (pc + 3) lv st (h.set i (.inr (1, fs.set 4 v)))) : jG E x cells slots pc lv (v :: .ref (E.1 + i) :: st) h := jG_putN (host := "JumpDiscs") F (C := RX1) (T := TX1) (N := 6) 4 tyX1 tyX1_ok nmX1 rfl jinX1 (by decide) (jmn 118 (by decide +kernel) (by decide +kernel)) rfl dg he hn hfit hl k
theorem jg_X5_230 (F : jF E x RX5 cc nL d cm sm) {i : Nat} {fs : List Value} {v : Value} (dg : decode cc pc = .ok (.getfield 230, 3)) (he : h[i]? = some (.inr (1, fs))) (hv : fs[5]? = some v) (k : jG E x cells slots (pc + 3) lv (v :: st) h) : jG E x cells slots pc lv (.ref (E.1 + i) :: st) h := jG_getN (host := "JumpDiscs") F (C := RX1) (T := TX1) (N := 6) 5 rfl jinX1 (by decide) (jmn 120 (by decide +kernel) (by decide +kernel)) dg he hv k
theorem jp_X5_230 (F : jF E x RX5 cc nL d cm sm) {i : Nat} {fs : List Value} {v : Value} (dg : decode cc pc = .ok (.putfield 230, 3)) (he : h[i]? = some (.inr (1, fs))) (hn : narrow (tyX1 5) v = v) (hfit : fits (tyX1 5) v = true) (hl : 5 < fs.length) (k : jG E x cells slots (pc + 3) lv st (h.set i (.inr (1, fs.set 5 v)))) : jG E x cells slots pc lv (v :: .ref (E.1 + i) :: st) h := jG_putN (host := "JumpDiscs") F (C := RX1) (T := TX1) (N := 6) 5 tyX1 tyX1_ok nmX1 rfl jinX1 (by decide) (jmn 120 (by decide +kernel) (by decide +kernel)) rfl dg he hn hfit hl k
theorem jg_X5_79 (F : jF E x RX5 cc nL d cm sm) {i : Nat} {fs : List Value} {v : Value} (dg : decode cc pc = .ok (.getfield 79, 3)) (he : h[i]? = some (.inr (2, fs))) (hv : fs[0]? = some v) (k : jG E x cells slots (pc + 3) lv (v :: st) h) : jG E x cells slots pc lv (.ref (E.1 + i) :: st) h := jG_getN (host := "JumpDiscs") F (C := RX2) (T := TX2) (N := 8) 0 rfl jinX2 (by decide) (jmn 136 (by decide +kernel) (by decide +kernel)) dg he hv k
theorem jg_X3_78 (F : jF E x RX3 cc nL d cm sm) {i : Nat} {fs : List Value} {v : Value} (dg : decode cc pc = .ok (.getfield 78, 3)) (he : h[i]? = some (.inr (2, fs))) (hv : fs[3]? = some v) (k : jG E x cells slots (pc + 3) lv (v :: st) h) : jG E x cells slots pc lv (.ref (E.1 + i) :: st) h := jG_getN (host := "JumpDiscs") F (C := RX2) (T := TX2) (N := 8) 3 rfl jinX2 (by decide) (jmn 140 (by decide +kernel) (by decide +kernel)) dg he hv k
theorem jp_X3_78 (F : jF E x RX3 cc nL d cm sm) {i : Nat} {fs : List Value} {v : Value} (dg : decode cc pc = .ok (.putfield 78, 3)) (he : h[i]? = some (.inr (2, fs))) (hn : narrow (tyX2 3) v = v) (hfit : fits (tyX2 3) v = true) (hl : 3 < fs.length) (k : jG E x cells slots (pc + 3) lv st (h.set i (.inr (2, fs.set 3 v)))) : jG E x cells slots pc lv (v :: .ref (E.1 + i) :: st) h := jG_putN (host := "JumpDiscs") F (C := RX2) (T := TX2) (N := 8) 3 tyX2 tyX2_ok nmX2 rfl jinX2 (by decide) (jmn 140 (by decide +kernel) (by decide +kernel)) rfl dg he hn hfit hl k
theorem jg_X5_185 (F : jF E x RX5 cc nL d cm sm) {i : Nat} {fs : List Value} {v : Value} (dg : decode cc pc = .ok (.getfield 185, 3)) (he : h[i]? = some (.inr (2, fs))) (hv : fs[3]? = some v) (k : jG E x cells slots (pc + 3) lv (v :: st) h) : jG E x cells slots pc lv (.ref (E.1 + i) :: st) h := jG_getN (host := "JumpDiscs") F (C := RX2) (T := TX2) (N := 8) 3 rfl jinX2 (by decide) (jmn 141 (by decide +kernel) (by decide +kernel)) dg he hv k
theorem jp_X5_185 (F : jF E x RX5 cc nL d cm sm) {i : Nat} {fs : List Value} {v : Value} (dg : decode cc pc = .ok (.putfield 185, 3)) (he : h[i]? = some (.inr (2, fs))) (hn : narrow (tyX2 3) v = v) (hfit : fits (tyX2 3) v = true) (hl : 3 < fs.length) (k : jG E x cells slots (pc + 3) lv st (h.set i (.inr (2, fs.set 3 v)))) : jG E x cells slots pc lv (v :: .ref (E.1 + i) :: st) h := jG_putN (host := "JumpDiscs") F (C := RX2) (T := TX2) (N := 8) 3 tyX2 tyX2_ok nmX2 rfl jinX2 (by decide) (jmn 141 (by decide +kernel) (by decide +kernel)) rfl dg he hn hfit hl k
theorem jg_X5_67 (F : jF E x RX5 cc nL d cm sm) {i : Nat} {fs : List Value} {v : Value} (dg : decode cc pc = .ok (.getfield 67, 3)) (he : h[i]? = some (.inr (2, fs))) (hv : fs[4]? = some v) (k : jG E x cells slots (pc + 3) lv (v :: st) h) : jG E x cells slots pc lv (.ref (E.1 + i) :: st) h := jG_getN (host := "JumpDiscs") F (C := RX2) (T := TX2) (N := 8) 4 rfl jinX2 (by decide) (jmn 143 (by decide +kernel) (by decide +kernel)) dg he hv k
theorem jp_X5_67 (F : jF E x RX5 cc nL d cm sm) {i : Nat} {fs : List Value} {v : Value} (dg : decode cc pc = .ok (.putfield 67, 3)) (he : h[i]? = some (.inr (2, fs))) (hn : narrow (tyX2 4) v = v) (hfit : fits (tyX2 4) v = true) (hl : 4 < fs.length) (k : jG E x cells slots (pc + 3) lv st (h.set i (.inr (2, fs.set 4 v)))) : jG E x cells slots pc lv (v :: .ref (E.1 + i) :: st) h := jG_putN (host := "JumpDiscs") F (C := RX2) (T := TX2) (N := 8) 4 tyX2 tyX2_ok nmX2 rfl jinX2 (by decide) (jmn 143 (by decide +kernel) (by decide +kernel)) rfl dg he hn hfit hl k
theorem jg_X5_139 (F : jF E x RX5 cc nL d cm sm) {i : Nat} {fs : List Value} {v : Value} (dg : decode cc pc = .ok (.getfield 139, 3)) (he : h[i]? = some (.inr (2, fs))) (hv : fs[5]? = some v) (k : jG E x cells slots (pc + 3) lv (v :: st) h) : jG E x cells slots pc lv (.ref (E.1 + i) :: st) h := jG_getN (host := "JumpDiscs") F (C := RX2) (T := TX2) (N := 8) 5 rfl jinX2 (by decide) (jmn 145 (by decide +kernel) (by decide +kernel)) dg he hv k
theorem jp_X5_139 (F : jF E x RX5 cc nL d cm sm) {i : Nat} {fs : List Value} {v : Value} (dg : decode cc pc = .ok (.putfield 139, 3)) (he : h[i]? = some (.inr (2, fs))) (hn : narrow (tyX2 5) v = v) (hfit : fits (tyX2 5) v = true) (hl : 5 < fs.length) (k : jG E x cells slots (pc + 3) lv st (h.set i (.inr (2, fs.set 5 v)))) : jG E x cells slots pc lv (v :: .ref (E.1 + i) :: st) h := jG_putN (host := "JumpDiscs") F (C := RX2) (T := TX2) (N := 8) 5 tyX2 tyX2_ok nmX2 rfl jinX2 (by decide) (jmn 145 (by decide +kernel) (by decide +kernel)) rfl dg he hn hfit hl k
theorem jg_X5_45 (F : jF E x RX5 cc nL d cm sm) {i : Nat} {fs : List Value} {v : Value} (dg : decode cc pc = .ok (.getfield 45, 3)) (he : h[i]? = some (.inr (2, fs))) (hv : fs[6]? = some v) (k : jG E x cells slots (pc + 3) lv (v :: st) h) : jG E x cells slots pc lv (.ref (E.1 + i) :: st) h := jG_getN (host := "JumpDiscs") F (C := RX2) (T := TX2) (N := 8) 6 rfl jinX2 (by decide) (jmn 147 (by decide +kernel) (by decide +kernel)) dg he hv k
theorem jp_X5_45 (F : jF E x RX5 cc nL d cm sm) {i : Nat} {fs : List Value} {v : Value} (dg : decode cc pc = .ok (.putfield 45, 3)) (he : h[i]? = some (.inr (2, fs))) (hn : narrow (tyX2 6) v = v) (hfit : fits (tyX2 6) v = true) (hl : 6 < fs.length) (k : jG E x cells slots (pc + 3) lv st (h.set i (.inr (2, fs.set 6 v)))) : jG E x cells slots pc lv (v :: .ref (E.1 + i) :: st) h := jG_putN (host := "JumpDiscs") F (C := RX2) (T := TX2) (N := 8) 6 tyX2 tyX2_ok nmX2 rfl jinX2 (by decide) (jmn 147 (by decide +kernel) (by decide +kernel)) rfl dg he hn hfit hl k
theorem jg_X5_169 (F : jF E x RX5 cc nL d cm sm) {i : Nat} {fs : List Value} {v : Value} (dg : decode cc pc = .ok (.getfield 169, 3)) (he : h[i]? = some (.inr (0, fs))) (hv : fs[0]? = some v) (k : jG E x cells slots (pc + 3) lv (v :: st) h) : jG E x cells slots pc lv (.ref (E.1 + i) :: st) h := jG_getN (host := "JumpDiscs") F (C := RX0) (T := TX0) (N := 3) 0 rfl jinX0 (by decide) (jmn 173 (by decide +kernel) (by decide +kernel)) dg he hv k
theorem jp_X5_169 (F : jF E x RX5 cc nL d cm sm) {i : Nat} {fs : List Value} {v : Value} (dg : decode cc pc = .ok (.putfield 169, 3)) (he : h[i]? = some (.inr (0, fs))) (hn : narrow (tyX0 0) v = v) (hfit : fits (tyX0 0) v = true) (hl : 0 < fs.length) (k : jG E x cells slots (pc + 3) lv st (h.set i (.inr (0, fs.set 0 v)))) : jG E x cells slots pc lv (v :: .ref (E.1 + i) :: st) h := jG_putN (host := "JumpDiscs") F (C := RX0) (T := TX0) (N := 3) 0 tyX0 tyX0_ok nmX0 rfl jinX0 (by decide) (jmn 173 (by decide +kernel) (by decide +kernel)) rfl dg he hn hfit hl k
theorem jg_X5_172 (F : jF E x RX5 cc nL d cm sm) {i : Nat} {fs : List Value} {v : Value} (dg : decode cc pc = .ok (.getfield 172, 3)) (he : h[i]? = some (.inr (0, fs))) (hv : fs[1]? = some v) (k : jG E x cells slots (pc + 3) lv (v :: st) h) : jG E x cells slots pc lv (.ref (E.1 + i) :: st) h := jG_getN (host := "JumpDiscs") F (C := RX0) (T := TX0) (N := 3) 1 rfl jinX0 (by decide) (jmn 175 (by decide +kernel) (by decide +kernel)) dg he hv k
theorem jp_X5_172 (F : jF E x RX5 cc nL d cm sm) {i : Nat} {fs : List Value} {v : Value} (dg : decode cc pc = .ok (.putfield 172, 3)) (he : h[i]? = some (.inr (0, fs))) (hn : narrow (tyX0 1) v = v) (hfit : fits (tyX0 1) v = true) (hl : 1 < fs.length) (k : jG E x cells slots (pc + 3) lv st (h.set i (.inr (0, fs.set 1 v)))) : jG E x cells slots pc lv (v :: .ref (E.1 + i) :: st) h := jG_putN (host := "JumpDiscs") F (C := RX0) (T := TX0) (N := 3) 1 tyX0 tyX0_ok nmX0 rfl jinX0 (by decide) (jmn 175 (by decide +kernel) (by decide +kernel)) rfl dg he hn hfit hl k
theorem jg_X5_227 (F : jF E x RX5 cc nL d cm sm) {i : Nat} {fs : List Value} {v : Value} (dg : decode cc pc = .ok (.getfield 227, 3)) (he : h[i]? = some (.inr (3, fs))) (hv : fs[3]? = some v) (k : jG E x cells slots (pc + 3) lv (v :: st) h) : jG E x cells slots pc lv (.ref (E.1 + i) :: st) h := jG_getN (host := "JumpDiscs") F (C := RX3) (T := TX3) (N := 9) 3 rfl jinX3 (by decide) (jmn 196 (by decide +kernel) (by decide +kernel)) dg he hv k
theorem jp_X5_227 (F : jF E x RX5 cc nL d cm sm) {i : Nat} {fs : List Value} {v : Value} (dg : decode cc pc = .ok (.putfield 227, 3)) (he : h[i]? = some (.inr (3, fs))) (hn : narrow (tyX3 3) v = v) (hfit : fits (tyX3 3) v = true) (hl : 3 < fs.length) (k : jG E x cells slots (pc + 3) lv st (h.set i (.inr (3, fs.set 3 v)))) : jG E x cells slots pc lv (v :: .ref (E.1 + i) :: st) h := jG_putN (host := "JumpDiscs") F (C := RX3) (T := TX3) (N := 9) 3 tyX3 tyX3_ok nmX3 rfl jinX3 (by decide) (jmn 196 (by decide +kernel) (by decide +kernel)) rfl dg he hn hfit hl k
theorem jg_X5_198 (F : jF E x RX5 cc nL d cm sm) {i : Nat} {fs : List Value} {v : Value} (dg : decode cc pc = .ok (.getfield 198, 3)) (he : h[i]? = some (.inr (3, fs))) (hv : fs[4]? = some v) (k : jG E x cells slots (pc + 3) lv (v :: st) h) : jG E x cells slots pc lv (.ref (E.1 + i) :: st) h := jG_getN (host := "JumpDiscs") F (C := RX3) (T := TX3) (N := 9) 4 rfl jinX3 (by decide) (jmn 198 (by decide +kernel) (by decide +kernel)) dg he hv k
theorem jp_X5_198 (F : jF E x RX5 cc nL d cm sm) {i : Nat} {fs : List Value} {v : Value} (dg : decode cc pc = .ok (.putfield 198, 3)) (he : h[i]? = some (.inr (3, fs))) (hn : narrow (tyX3 4) v = v) (hfit : fits (tyX3 4) v = true) (hl : 4 < fs.length) (k : jG E x cells slots (pc + 3) lv st (h.set i (.inr (3, fs.set 4 v)))) : jG E x cells slots pc lv (v :: .ref (E.1 + i) :: st) h := jG_putN (host := "JumpDiscs") F (C := RX3) (T := TX3) (N := 9) 4 tyX3 tyX3_ok nmX3 rfl jinX3 (by decide) (jmn 198 (by decide +kernel) (by decide +kernel)) rfl dg he hn hfit hl k
theorem jg_X5_201 (F : jF E x RX5 cc nL d cm sm) {i : Nat} {fs : List Value} {v : Value} (dg : decode cc pc = .ok (.getfield 201, 3)) (he : h[i]? = some (.inr (3, fs))) (hv : fs[5]? = some v) (k : jG E x cells slots (pc + 3) lv (v :: st) h) : jG E x cells slots pc lv (.ref (E.1 + i) :: st) h := jG_getN (host := "JumpDiscs") F (C := RX3) (T := TX3) (N := 9) 5 rfl jinX3 (by decide) (jmn 200 (by decide +kernel) (by decide +kernel)) dg he hv k
theorem jp_X5_201 (F : jF E x RX5 cc nL d cm sm) {i : Nat} {fs : List Value} {v : Value} (dg : decode cc pc = .ok (.putfield 201, 3)) (he : h[i]? = some (.inr (3, fs))) (hn : narrow (tyX3 5) v = v) (hfit : fits (tyX3 5) v = true) (hl : 5 < fs.length) (k : jG E x cells slots (pc + 3) lv st (h.set i (.inr (3, fs.set 5 v)))) : jG E x cells slots pc lv (v :: .ref (E.1 + i) :: st) h := jG_putN (host := "JumpDiscs") F (C := RX3) (T := TX3) (N := 9) 5 tyX3 tyX3_ok nmX3 rfl jinX3 (by decide) (jmn 200 (by decide +kernel) (by decide +kernel)) rfl dg he hn hfit hl k
theorem jc_L_9 (F : jF E x RL cc nL d cm sm) {b0 d' : Nat} {mc ms : Nat}   (dg : decode cc pc = .ok (.invokespecial 9, 3)) (hM : jMd (jL x) E yX5_init cX5_init 2 none d' [.ref b0] h none h' mc ms) (hR : d' + 1 ≤ d) (hcm : cells + mc ≤ cm) (hsm : slots + ms ≤ sm) (hcat : (st.map fun v => v.category).sum ≤ 8) (k : jG E x (cells + mc) (slots + ms) (pc + 3) lv (st) h') : jG E x cells slots pc lv (.ref b0 :: st) h := jG_callI F (y := yX5_init) (n := 0) (As := []) (rest := st) ⟨(jm 59 (by decide +kernel) (by decide +kernel)), (jm 57 (by decide +kernel) (by decide +kernel)), (jm 58 (by decide +kernel) (by decide +kernel)), (jm 45 (by decide +kernel) (by decide +kernel))⟩ rfl (by decide +kernel) (by decide) hM hR rfl rfl hcat dg hcm hsm k
theorem jc_X2_11 (F : jF E x RX2 cc nL d cm sm) {b0 d' : Nat} {mc ms : Nat}   (dg : decode cc pc = .ok (.invokespecial 11, 3)) (hM : jMd (jL x) E yX1_init cX1_init 1 none d' [.ref b0] h none h' mc ms) (hR : d' + 1 ≤ d) (hcm : cells + mc ≤ cm) (hsm : slots + ms ≤ sm) (hcat : (st.map fun v => v.category).sum ≤ 8) (k : jG E x (cells + mc) (slots + ms) (pc + 3) lv (st) h') : jG E x cells slots pc lv (.ref b0 :: st) h := jG_callI F (y := yX1_init) (n := 0) (As := []) (rest := st) ⟨(jm 73 (by decide +kernel) (by decide +kernel)), (jm 71 (by decide +kernel) (by decide +kernel)), (jm 72 (by decide +kernel) (by decide +kernel)), (jm 47 (by decide +kernel) (by decide +kernel))⟩ rfl (by decide +kernel) (by decide) hM hR rfl rfl hcat dg hcm hsm k
theorem jc_X1_31 (F : jF E x RX1 cc nL d cm sm) {i d' : Nat} {fs : List Value}   (dg : decode cc pc = .ok (.invokevirtual 31, 3)) (hM : jMd (jL x) E yX1_bringAllToBase cX1_bringAllToBase 2 none d' [.ref (E.1 + i)] h none h' 0 0) (he : h[i]? = some (.inr (1, fs))) (hR : d' + 1 ≤ d) (hcm : cells ≤ cm) (hsm : slots ≤ sm) (hcat : (st.map fun v => v.category).sum ≤ 8) (k : jG E x cells slots (pc + 3) lv (st) h') : jG E x cells slots pc lv (.ref (E.1 + i) :: st) h := jG_callV F (y := yX1_bringAllToBase) (n := 0) (As := []) (rest := st) (ci := 1) ⟨(jm 78 (by decide +kernel) (by decide +kernel)), (jm 75 (by decide +kernel) (by decide +kernel)), (jm 76 (by decide +kernel) (by decide +kernel)), (jm 77 (by decide +kernel) (by decide +kernel)), (jm 47 (by decide +kernel) (by decide +kernel))⟩ (by decide +kernel) (by decide) rfl hM hR he rfl rfl hcat dg hcm hsm k
theorem jc_X1_34 (F : jF E x RX1 cc nL d cm sm) {i d' : Nat} {fs : List Value} {a0 : Int32} {a1 : Int32} {a2 : Int32}  (dg : decode cc pc = .ok (.invokevirtual 34, 3)) (hM : jMd (jL x) E yX1_bring cX1_bring 5 none d' [.ref (E.1 + i), .int a0, .int a1, .int a2] h none h' 0 0) (he : h[i]? = some (.inr (1, fs))) (hR : d' + 1 ≤ d) (hcm : cells ≤ cm) (hsm : slots ≤ sm) (hcat : (st.map fun v => v.category).sum ≤ 8) (k : jG E x cells slots (pc + 3) lv (st) h') : jG E x cells slots pc lv (.int a2 :: .int a1 :: .int a0 :: .ref (E.1 + i) :: st) h := jG_callV F (y := yX1_bring) (n := 3) (As := [.int a0, .int a1, .int a2]) (rest := st) (ci := 1) ⟨(jm 82 (by decide +kernel) (by decide +kernel)), (jm 79 (by decide +kernel) (by decide +kernel)), (jm 80 (by decide +kernel) (by decide +kernel)), (jm 81 (by decide +kernel) (by decide +kernel)), (jm 47 (by decide +kernel) (by decide +kernel))⟩ (by decide +kernel) (by decide) rfl hM hR he rfl rfl hcat dg hcm hsm k
theorem jc_X1_44 (F : jF E x RX1 cc nL d cm sm) {i d' : Nat} {fs : List Value} {a0 : Int32}  (dg : decode cc pc = .ok (.invokevirtual 44, 3)) (hM : jMd (jL x) E yX1_lift cX1_lift 4 none d' [.ref (E.1 + i), .int a0] h none h' 0 0) (he : h[i]? = some (.inr (1, fs))) (hR : d' + 1 ≤ d) (hcm : cells ≤ cm) (hsm : slots ≤ sm) (hcat : (st.map fun v => v.category).sum ≤ 8) (k : jG E x cells slots (pc + 3) lv (st) h') : jG E x cells slots pc lv (.int a0 :: .ref (E.1 + i) :: st) h := jG_callV F (y := yX1_lift) (n := 1) (As := [.int a0]) (rest := st) (ci := 1) ⟨(jm 86 (by decide +kernel) (by decide +kernel)), (jm 83 (by decide +kernel) (by decide +kernel)), (jm 85 (by decide +kernel) (by decide +kernel)), (jm 0 (by decide +kernel) (by decide +kernel)), (jm 47 (by decide +kernel) (by decide +kernel))⟩ (by decide +kernel) (by decide) rfl hM hR he rfl rfl hcat dg hcm hsm k
theorem jc_X1_58 (F : jF E x RX1 cc nL d cm sm) {i d' : Nat} {fs : List Value} {a0 : Int32} {r : Int32} (dg : decode cc pc = .ok (.invokevirtual 58, 3)) (hM : jMd (jL x) E yX1_doesLie cX1_doesLie 2 (some .boolean) d' [.ref (E.1 + i), .int a0] h (some (.int r)) h' 0 0) (he : h[i]? = some (.inr (1, fs))) (hR : d' + 1 ≤ d) (hcm : cells ≤ cm) (hsm : slots ≤ sm) (hcat : (st.map fun v => v.category).sum ≤ 8) (k : jG E x cells slots (pc + 3) lv (.int r :: st) h') : jG E x cells slots pc lv (.int a0 :: .ref (E.1 + i) :: st) h := jG_callV F (y := yX1_doesLie) (n := 1) (As := [.int a0]) (rest := st) (ci := 1) ⟨(jm 90 (by decide +kernel) (by decide +kernel)), (jm 87 (by decide +kernel) (by decide +kernel)), (jm 88 (by decide +kernel) (by decide +kernel)), (jm 89 (by decide +kernel) (by decide +kernel)), (jm 47 (by decide +kernel) (by decide +kernel))⟩ (by decide +kernel) (by decide) rfl hM hR he rfl rfl hcat dg hcm hsm k
theorem jc_X1_62 (F : jF E x RX1 cc nL d cm sm) {i d' : Nat} {fs : List Value} {a0 : Int32} {a1 : Int32} {r : Int32} (dg : decode cc pc = .ok (.invokevirtual 62, 3)) (hM : jMd (jL x) E yX1_isOverlap cX1_isOverlap 6 (some .boolean) d' [.ref (E.1 + i), .int a0, .int a1] h (some (.int r)) h' 0 0) (he : h[i]? = some (.inr (1, fs))) (hR : d' + 1 ≤ d) (hcm : cells ≤ cm) (hsm : slots ≤ sm) (hcat : (st.map fun v => v.category).sum ≤ 8) (k : jG E x cells slots (pc + 3) lv (.int r :: st) h') : jG E x cells slots pc lv (.int a1 :: .int a0 :: .ref (E.1 + i) :: st) h := jG_callV F (y := yX1_isOverlap) (n := 2) (As := [.int a0, .int a1]) (rest := st) (ci := 1) ⟨(jm 101 (by decide +kernel) (by decide +kernel)), (jm 98 (by decide +kernel) (by decide +kernel)), (jm 100 (by decide +kernel) (by decide +kernel)), (jm 1 (by decide +kernel) (by decide +kernel)), (jm 47 (by decide +kernel) (by decide +kernel))⟩ (by decide +kernel) (by decide) rfl hM hR he rfl rfl hcat dg hcm hsm k
theorem jc_L_13 (F : jF E x RL cc nL d cm sm) {i d' : Nat} {fs : List Value}  {r : Int32} (dg : decode cc pc = .ok (.invokevirtual 13, 3)) (hM : jMd (jL x) E yX5_anew cX5_anew 2 (some .int) d' [.ref (E.1 + i)] h (some (.int r)) h' 0 0) (he : h[i]? = some (.inr (5, fs))) (hR : d' + 1 ≤ d) (hcm : cells ≤ cm) (hsm : slots ≤ sm) (hcat : (st.map fun v => v.category).sum ≤ 8) (k : jG E x cells slots (pc + 3) lv (.int r :: st) h') : jG E x cells slots pc lv (.ref (E.1 + i) :: st) h := jG_callV F (y := yX5_anew) (n := 0) (As := []) (rest := st) (ci := 5) ⟨(jm 262 (by decide +kernel) (by decide +kernel)), (jm 259 (by decide +kernel) (by decide +kernel)), (jm 260 (by decide +kernel) (by decide +kernel)), (jm 261 (by decide +kernel) (by decide +kernel)), (jm 45 (by decide +kernel) (by decide +kernel))⟩ (by decide +kernel) (by decide) rfl hM hR he rfl rfl hcat dg hcm hsm k
theorem jc_X5_48 (F : jF E x RX5 cc nL d cm sm) {i d' : Nat} {fs : List Value}   (dg : decode cc pc = .ok (.invokevirtual 48, 3)) (hM : jMd (jL x) E yX2_beginAnew cX2_beginAnew 1 none d' [.ref (E.1 + i)] h none h' 0 0) (he : h[i]? = some (.inr (2, fs))) (hR : d' + 1 ≤ d) (hcm : cells ≤ cm) (hsm : slots ≤ sm) (hcat : (st.map fun v => v.category).sum ≤ 8) (k : jG E x cells slots (pc + 3) lv (st) h') : jG E x cells slots pc lv (.ref (E.1 + i) :: st) h := jG_callV F (y := yX2_beginAnew) (n := 0) (As := []) (rest := st) (ci := 2) ⟨(jm 266 (by decide +kernel) (by decide +kernel)), (jm 263 (by decide +kernel) (by decide +kernel)), (jm 264 (by decide +kernel) (by decide +kernel)), (jm 265 (by decide +kernel) (by decide +kernel)), (jm 46 (by decide +kernel) (by decide +kernel))⟩ (by decide +kernel) (by decide) rfl hM hR he rfl rfl hcat dg hcm hsm k
theorem jc_X2_41 (F : jF E x RX2 cc nL d cm sm) {i d' : Nat} {fs : List Value}   (dg : decode cc pc = .ok (.invokevirtual 41, 3)) (hM : jMd (jL x) E yX1_bringAllToBase cX1_bringAllToBase 2 none d' [.ref (E.1 + i)] h none h' 0 0) (he : h[i]? = some (.inr (1, fs))) (hR : d' + 1 ≤ d) (hcm : cells ≤ cm) (hsm : slots ≤ sm) (hcat : (st.map fun v => v.category).sum ≤ 8) (k : jG E x cells slots (pc + 3) lv (st) h') : jG E x cells slots pc lv (.ref (E.1 + i) :: st) h := jG_callV F (y := yX1_bringAllToBase) (n := 0) (As := []) (rest := st) (ci := 1) ⟨(jm 78 (by decide +kernel) (by decide +kernel)), (jm 267 (by decide +kernel) (by decide +kernel)), (jm 76 (by decide +kernel) (by decide +kernel)), (jm 77 (by decide +kernel) (by decide +kernel)), (jm 47 (by decide +kernel) (by decide +kernel))⟩ (by decide +kernel) (by decide) rfl hM hR he rfl rfl hcat dg hcm hsm k
theorem jc_L_18 (F : jF E x RL cc nL d cm sm) {i d' : Nat} {fs : List Value} {a0 : Int32} {a1 : Int32} {r : Int32} (dg : decode cc pc = .ok (.invokevirtual 18, 3)) (hM : jMd (jL x) E yX5_rule cX5_rule 3 (some .int) d' [.ref (E.1 + i), .int a0, .int a1] h (some (.int r)) h' 0 0) (he : h[i]? = some (.inr (5, fs))) (hR : d' + 1 ≤ d) (hcm : cells ≤ cm) (hsm : slots ≤ sm) (hcat : (st.map fun v => v.category).sum ≤ 8) (k : jG E x cells slots (pc + 3) lv (.int r :: st) h') : jG E x cells slots pc lv (.int a1 :: .int a0 :: .ref (E.1 + i) :: st) h := jG_callV F (y := yX5_rule) (n := 2) (As := [.int a0, .int a1]) (rest := st) (ci := 5) ⟨(jm 271 (by decide +kernel) (by decide +kernel)), (jm 268 (by decide +kernel) (by decide +kernel)), (jm 269 (by decide +kernel) (by decide +kernel)), (jm 270 (by decide +kernel) (by decide +kernel)), (jm 45 (by decide +kernel) (by decide +kernel))⟩ (by decide +kernel) (by decide) rfl hM hR he rfl rfl hcat dg hcm hsm k
theorem jc_X5_51 (F : jF E x RX5 cc nL d cm sm) {d' : Nat} {a0 : Int32} {a1 : Int32} {a2 : Int32} {r : Int32} (dg : decode cc pc = .ok (.invokestatic 51, 3)) (hM : jMd (jL x) E yX5_within cX5_within 3 (some .boolean) d' [.int a0, .int a1, .int a2] h (some (.int r)) h' 0 0) (hR : d' + 1 ≤ d) (hcm : cells ≤ cm) (hsm : slots ≤ sm) (hcat : (st.map fun v => v.category).sum ≤ 8) (k : jG E x cells slots (pc + 3) lv (.int r :: st) h') : jG E x cells slots pc lv (.int a2 :: .int a1 :: .int a0 :: st) h := jG_callS F (y := yX5_within) (n := 3) (As := [.int a0, .int a1, .int a2]) (rest := st) ⟨(jm 274 (by decide +kernel) (by decide +kernel)), (jm 272 (by decide +kernel) (by decide +kernel)), (jm 273 (by decide +kernel) (by decide +kernel)), (jm 45 (by decide +kernel) (by decide +kernel))⟩ (by decide +kernel) (by decide) hM hR rfl rfl hcat dg hcm hsm k
theorem jc_X5_55 (F : jF E x RX5 cc nL d cm sm) {i d' : Nat} {fs : List Value} {a0 : Int32} {r : Int32} (dg : decode cc pc = .ok (.invokevirtual 55, 3)) (hM : jMd (jL x) E yX2_changeRough cX2_changeRough 3 (some .int) d' [.ref (E.1 + i), .int a0] h (some (.int r)) h' 0 0) (he : h[i]? = some (.inr (2, fs))) (hR : d' + 1 ≤ d) (hcm : cells ≤ cm) (hsm : slots ≤ sm) (hcat : (st.map fun v => v.category).sum ≤ 8) (k : jG E x cells slots (pc + 3) lv (.int r :: st) h') : jG E x cells slots pc lv (.int a0 :: .ref (E.1 + i) :: st) h := jG_callV F (y := yX2_changeRough) (n := 1) (As := [.int a0]) (rest := st) (ci := 2) ⟨(jm 278 (by decide +kernel) (by decide +kernel)), (jm 275 (by decide +kernel) (by decide +kernel)), (jm 276 (by decide +kernel) (by decide +kernel)), (jm 277 (by decide +kernel) (by decide +kernel)), (jm 46 (by decide +kernel) (by decide +kernel))⟩ (by decide +kernel) (by decide) rfl hM hR he rfl rfl hcat dg hcm hsm k
theorem jc_X5_59 (F : jF E x RX5 cc nL d cm sm) {i d' : Nat} {fs : List Value} {a0 : Int32} {r : Int32} (dg : decode cc pc = .ok (.invokevirtual 59, 3)) (hM : jMd (jL x) E yX2_changeRun cX2_changeRun 3 (some .int) d' [.ref (E.1 + i), .int a0] h (some (.int r)) h' 0 0) (he : h[i]? = some (.inr (2, fs))) (hR : d' + 1 ≤ d) (hcm : cells ≤ cm) (hsm : slots ≤ sm) (hcat : (st.map fun v => v.category).sum ≤ 8) (k : jG E x cells slots (pc + 3) lv (.int r :: st) h') : jG E x cells slots pc lv (.int a0 :: .ref (E.1 + i) :: st) h := jG_callV F (y := yX2_changeRun) (n := 1) (As := [.int a0]) (rest := st) (ci := 2) ⟨(jm 282 (by decide +kernel) (by decide +kernel)), (jm 279 (by decide +kernel) (by decide +kernel)), (jm 280 (by decide +kernel) (by decide +kernel)), (jm 281 (by decide +kernel) (by decide +kernel)), (jm 46 (by decide +kernel) (by decide +kernel))⟩ (by decide +kernel) (by decide) rfl hM hR he rfl rfl hcat dg hcm hsm k
theorem jc_X5_62 (F : jF E x RX5 cc nL d cm sm) {i d' : Nat} {fs : List Value} {a0 : Int32} {r : Int32} (dg : decode cc pc = .ok (.invokevirtual 62, 3)) (hM : jMd (jL x) E yX2_changeTime cX2_changeTime 3 (some .int) d' [.ref (E.1 + i), .int a0] h (some (.int r)) h' 0 0) (he : h[i]? = some (.inr (2, fs))) (hR : d' + 1 ≤ d) (hcm : cells ≤ cm) (hsm : slots ≤ sm) (hcat : (st.map fun v => v.category).sum ≤ 8) (k : jG E x cells slots (pc + 3) lv (.int r :: st) h') : jG E x cells slots pc lv (.int a0 :: .ref (E.1 + i) :: st) h := jG_callV F (y := yX2_changeTime) (n := 1) (As := [.int a0]) (rest := st) (ci := 2) ⟨(jm 286 (by decide +kernel) (by decide +kernel)), (jm 283 (by decide +kernel) (by decide +kernel)), (jm 284 (by decide +kernel) (by decide +kernel)), (jm 285 (by decide +kernel) (by decide +kernel)), (jm 46 (by decide +kernel) (by decide +kernel))⟩ (by decide +kernel) (by decide) rfl hM hR he rfl rfl hcat dg hcm hsm k
theorem jc_X2_48 (F : jF E x RX2 cc nL d cm sm) {i d' : Nat} {fs : List Value}  {r : Int32} (dg : decode cc pc = .ok (.invokevirtual 48, 3)) (hM : jMd (jL x) E yX2_isTimeCome cX2_isTimeCome 1 (some .boolean) d' [.ref (E.1 + i)] h (some (.int r)) h' 0 0) (he : h[i]? = some (.inr (2, fs))) (hR : d' + 1 ≤ d) (hcm : cells ≤ cm) (hsm : slots ≤ sm) (hcat : (st.map fun v => v.category).sum ≤ 8) (k : jG E x cells slots (pc + 3) lv (.int r :: st) h') : jG E x cells slots pc lv (.ref (E.1 + i) :: st) h := jG_callV F (y := yX2_isTimeCome) (n := 0) (As := []) (rest := st) (ci := 2) ⟨(jm 290 (by decide +kernel) (by decide +kernel)), (jm 287 (by decide +kernel) (by decide +kernel)), (jm 288 (by decide +kernel) (by decide +kernel)), (jm 289 (by decide +kernel) (by decide +kernel)), (jm 46 (by decide +kernel) (by decide +kernel))⟩ (by decide +kernel) (by decide) rfl hM hR he rfl rfl hcat dg hcm hsm k
theorem jc_X2_52 (F : jF E x RX2 cc nL d cm sm) {i d' : Nat} {fs : List Value}   (dg : decode cc pc = .ok (.invokevirtual 52, 3)) (hM : jMd (jL x) E yX2_passOverWithoutRounds cX2_passOverWithoutRounds 2 none d' [.ref (E.1 + i)] h none h' 0 0) (he : h[i]? = some (.inr (2, fs))) (hR : d' + 1 ≤ d) (hcm : cells ≤ cm) (hsm : slots ≤ sm) (hcat : (st.map fun v => v.category).sum ≤ 8) (k : jG E x cells slots (pc + 3) lv (st) h') : jG E x cells slots pc lv (.ref (E.1 + i) :: st) h := jG_callV F (y := yX2_passOverWithoutRounds) (n := 0) (As := []) (rest := st) (ci := 2) ⟨(jm 294 (by decide +kernel) (by decide +kernel)), (jm 291 (by decide +kernel) (by decide +kernel)), (jm 292 (by decide +kernel) (by decide +kernel)), (jm 293 (by decide +kernel) (by decide +kernel)), (jm 46 (by decide +kernel) (by decide +kernel))⟩ (by decide +kernel) (by decide) rfl hM hR he rfl rfl hcat dg hcm hsm k
theorem jc_X2_66 (F : jF E x RX2 cc nL d cm sm) {i d' : Nat} {fs : List Value}  {r : Int32} (dg : decode cc pc = .ok (.invokevirtual 66, 3)) (hM : jMd (jL x) E yX2_isOver cX2_isOver 1 (some .boolean) d' [.ref (E.1 + i)] h (some (.int r)) h' 0 0) (he : h[i]? = some (.inr (2, fs))) (hR : d' + 1 ≤ d) (hcm : cells ≤ cm) (hsm : slots ≤ sm) (hcat : (st.map fun v => v.category).sum ≤ 8) (k : jG E x cells slots (pc + 3) lv (.int r :: st) h') : jG E x cells slots pc lv (.ref (E.1 + i) :: st) h := jG_callV F (y := yX2_isOver) (n := 0) (As := []) (rest := st) (ci := 2) ⟨(jm 298 (by decide +kernel) (by decide +kernel)), (jm 295 (by decide +kernel) (by decide +kernel)), (jm 296 (by decide +kernel) (by decide +kernel)), (jm 297 (by decide +kernel) (by decide +kernel)), (jm 46 (by decide +kernel) (by decide +kernel))⟩ (by decide +kernel) (by decide) rfl hM hR he rfl rfl hcat dg hcm hsm k
theorem jc_X2_55 (F : jF E x RX2 cc nL d cm sm) {i d' : Nat} {fs : List Value}  {r : Int32} (dg : decode cc pc = .ok (.invokevirtual 55, 3)) (hM : jMd (jL x) E yX1_isAnyoneAllIn cX1_isAnyoneAllIn 1 (some .boolean) d' [.ref (E.1 + i)] h (some (.int r)) h' 0 0) (he : h[i]? = some (.inr (1, fs))) (hR : d' + 1 ≤ d) (hcm : cells ≤ cm) (hsm : slots ≤ sm) (hcat : (st.map fun v => v.category).sum ≤ 8) (k : jG E x cells slots (pc + 3) lv (.int r :: st) h') : jG E x cells slots pc lv (.ref (E.1 + i) :: st) h := jG_callV F (y := yX1_isAnyoneAllIn) (n := 0) (As := []) (rest := st) (ci := 1) ⟨(jm 302 (by decide +kernel) (by decide +kernel)), (jm 299 (by decide +kernel) (by decide +kernel)), (jm 300 (by decide +kernel) (by decide +kernel)), (jm 301 (by decide +kernel) (by decide +kernel)), (jm 47 (by decide +kernel) (by decide +kernel))⟩ (by decide +kernel) (by decide) rfl hM hR he rfl rfl hcat dg hcm hsm k
theorem jc_X2_110 (F : jF E x RX2 cc nL d cm sm) {i d' : Nat} {fs : List Value} {a0 : Int32} {r : Int32} (dg : decode cc pc = .ok (.invokevirtual 110, 3)) (hM : jMd (jL x) E yX1_freeOf cX1_freeOf 2 (some .int) d' [.ref (E.1 + i), .int a0] h (some (.int r)) h' 0 0) (he : h[i]? = some (.inr (1, fs))) (hR : d' + 1 ≤ d) (hcm : cells ≤ cm) (hsm : slots ≤ sm) (hcat : (st.map fun v => v.category).sum ≤ 8) (k : jG E x cells slots (pc + 3) lv (.int r :: st) h') : jG E x cells slots pc lv (.int a0 :: .ref (E.1 + i) :: st) h := jG_callV F (y := yX1_freeOf) (n := 1) (As := [.int a0]) (rest := st) (ci := 1) ⟨(jm 306 (by decide +kernel) (by decide +kernel)), (jm 303 (by decide +kernel) (by decide +kernel)), (jm 304 (by decide +kernel) (by decide +kernel)), (jm 305 (by decide +kernel) (by decide +kernel)), (jm 47 (by decide +kernel) (by decide +kernel))⟩ (by decide +kernel) (by decide) rfl hM hR he rfl rfl hcat dg hcm hsm k
theorem jc_X2_113 (F : jF E x RX2 cc nL d cm sm) {d' : Nat} {a0 : Int32} {r : Int32} (dg : decode cc pc = .ok (.invokestatic 113, 3)) (hM : jMd (jL x) E yX2_nextInRound cX2_nextInRound 1 (some .int) d' [.int a0] h (some (.int r)) h' 0 0) (hR : d' + 1 ≤ d) (hcm : cells ≤ cm) (hsm : slots ≤ sm) (hcat : (st.map fun v => v.category).sum ≤ 8) (k : jG E x cells slots (pc + 3) lv (.int r :: st) h') : jG E x cells slots pc lv (.int a0 :: st) h := jG_callS F (y := yX2_nextInRound) (n := 1) (As := [.int a0]) (rest := st) ⟨(jm 309 (by decide +kernel) (by decide +kernel)), (jm 307 (by decide +kernel) (by decide +kernel)), (jm 308 (by decide +kernel) (by decide +kernel)), (jm 46 (by decide +kernel) (by decide +kernel))⟩ (by decide +kernel) (by decide) hM hR rfl rfl hcat dg hcm hsm k
theorem jc_L_23 (F : jF E x RL cc nL d cm sm) {i d' : Nat} {fs : List Value} {a0 : Int32} {r : Int32} (dg : decode cc pc = .ok (.invokevirtual 23, 3)) (hM : jMd (jL x) E yX5_seed cX5_seed 2 (some .int) d' [.ref (E.1 + i), .int a0] h (some (.int r)) h' 0 0) (he : h[i]? = some (.inr (5, fs))) (hR : d' + 1 ≤ d) (hcm : cells ≤ cm) (hsm : slots ≤ sm) (hcat : (st.map fun v => v.category).sum ≤ 8) (k : jG E x cells slots (pc + 3) lv (.int r :: st) h') : jG E x cells slots pc lv (.int a0 :: .ref (E.1 + i) :: st) h := jG_callV F (y := yX5_seed) (n := 1) (As := [.int a0]) (rest := st) (ci := 5) ⟨(jm 313 (by decide +kernel) (by decide +kernel)), (jm 310 (by decide +kernel) (by decide +kernel)), (jm 311 (by decide +kernel) (by decide +kernel)), (jm 312 (by decide +kernel) (by decide +kernel)), (jm 45 (by decide +kernel) (by decide +kernel))⟩ (by decide +kernel) (by decide) rfl hM hR he rfl rfl hcat dg hcm hsm k
theorem jc_L_28 (F : jF E x RL cc nL d cm sm) {i d' : Nat} {fs : List Value} {a0 : Int32} {a1 : Int32} {a2 : Int32} {r : Int32} (dg : decode cc pc = .ok (.invokevirtual 28, 3)) (hM : jMd (jL x) E yX5_put cX5_put 4 (some .int) d' [.ref (E.1 + i), .int a0, .int a1, .int a2] h (some (.int r)) h' 0 0) (he : h[i]? = some (.inr (5, fs))) (hR : d' + 1 ≤ d) (hcm : cells ≤ cm) (hsm : slots ≤ sm) (hcat : (st.map fun v => v.category).sum ≤ 8) (k : jG E x cells slots (pc + 3) lv (.int r :: st) h') : jG E x cells slots pc lv (.int a2 :: .int a1 :: .int a0 :: .ref (E.1 + i) :: st) h := jG_callV F (y := yX5_put) (n := 3) (As := [.int a0, .int a1, .int a2]) (rest := st) (ci := 5) ⟨(jm 318 (by decide +kernel) (by decide +kernel)), (jm 315 (by decide +kernel) (by decide +kernel)), (jm 316 (by decide +kernel) (by decide +kernel)), (jm 317 (by decide +kernel) (by decide +kernel)), (jm 45 (by decide +kernel) (by decide +kernel))⟩ (by decide +kernel) (by decide) rfl hM hR he rfl rfl hcat dg hcm hsm k
theorem jc_X5_71 (F : jF E x RX5 cc nL d cm sm) {d' : Nat} {a0 : Int32} {r : Int32} (dg : decode cc pc = .ok (.invokestatic 71, 3)) (hM : jMd (jL x) E yX5_isDisc cX5_isDisc 1 (some .boolean) d' [.int a0] h (some (.int r)) h' 0 0) (hR : d' + 1 ≤ d) (hcm : cells ≤ cm) (hsm : slots ≤ sm) (hcat : (st.map fun v => v.category).sum ≤ 8) (k : jG E x cells slots (pc + 3) lv (.int r :: st) h') : jG E x cells slots pc lv (.int a0 :: st) h := jG_callS F (y := yX5_isDisc) (n := 1) (As := [.int a0]) (rest := st) ⟨(jm 321 (by decide +kernel) (by decide +kernel)), (jm 319 (by decide +kernel) (by decide +kernel)), (jm 320 (by decide +kernel) (by decide +kernel)), (jm 45 (by decide +kernel) (by decide +kernel))⟩ (by decide +kernel) (by decide) hM hR rfl rfl hcat dg hcm hsm k
theorem jc_X5_75 (F : jF E x RX5 cc nL d cm sm) {d' : Nat} {a0 : Int32} {a1 : Int32} {r : Int32} (dg : decode cc pc = .ok (.invokestatic 75, 3)) (hM : jMd (jL x) E yX5_isMarkOrPlace cX5_isMarkOrPlace 2 (some .boolean) d' [.int a0, .int a1] h (some (.int r)) h' 0 0) (hR : d' + 1 ≤ d) (hcm : cells ≤ cm) (hsm : slots ≤ sm) (hcat : (st.map fun v => v.category).sum ≤ 8) (k : jG E x cells slots (pc + 3) lv (.int r :: st) h') : jG E x cells slots pc lv (.int a1 :: .int a0 :: st) h := jG_callS F (y := yX5_isMarkOrPlace) (n := 2) (As := [.int a0, .int a1]) (rest := st) ⟨(jm 324 (by decide +kernel) (by decide +kernel)), (jm 322 (by decide +kernel) (by decide +kernel)), (jm 323 (by decide +kernel) (by decide +kernel)), (jm 45 (by decide +kernel) (by decide +kernel))⟩ (by decide +kernel) (by decide) hM hR rfl rfl hcat dg hcm hsm k
theorem jc_X5_117 (F : jF E x RX5 cc nL d cm sm) {d' : Nat} {a0 : Int32} {a1 : Int32} {r : Int32} (dg : decode cc pc = .ok (.invokestatic 117, 3)) (hM : jMd (jL x) E yX5_isPlace cX5_isPlace 2 (some .boolean) d' [.int a0, .int a1] h (some (.int r)) h' 0 0) (hR : d' + 1 ≤ d) (hcm : cells ≤ cm) (hsm : slots ≤ sm) (hcat : (st.map fun v => v.category).sum ≤ 8) (k : jG E x cells slots (pc + 3) lv (.int r :: st) h') : jG E x cells slots pc lv (.int a1 :: .int a0 :: st) h := jG_callS F (y := yX5_isPlace) (n := 2) (As := [.int a0, .int a1]) (rest := st) ⟨(jm 327 (by decide +kernel) (by decide +kernel)), (jm 325 (by decide +kernel) (by decide +kernel)), (jm 326 (by decide +kernel) (by decide +kernel)), (jm 45 (by decide +kernel) (by decide +kernel))⟩ (by decide +kernel) (by decide) hM hR rfl rfl hcat dg hcm hsm k
theorem jc_X5_83 (F : jF E x RX5 cc nL d cm sm) {i d' : Nat} {fs : List Value} {a0 : Int32} {a1 : Int32} {a2 : Int32}  (dg : decode cc pc = .ok (.invokevirtual 83, 3)) (hM : jMd (jL x) E yX1_bring cX1_bring 5 none d' [.ref (E.1 + i), .int a0, .int a1, .int a2] h none h' 0 0) (he : h[i]? = some (.inr (1, fs))) (hR : d' + 1 ≤ d) (hcm : cells ≤ cm) (hsm : slots ≤ sm) (hcat : (st.map fun v => v.category).sum ≤ 8) (k : jG E x cells slots (pc + 3) lv (st) h') : jG E x cells slots pc lv (.int a2 :: .int a1 :: .int a0 :: .ref (E.1 + i) :: st) h := jG_callV F (y := yX1_bring) (n := 3) (As := [.int a0, .int a1, .int a2]) (rest := st) (ci := 1) ⟨(jm 82 (by decide +kernel) (by decide +kernel)), (jm 328 (by decide +kernel) (by decide +kernel)), (jm 80 (by decide +kernel) (by decide +kernel)), (jm 81 (by decide +kernel) (by decide +kernel)), (jm 47 (by decide +kernel) (by decide +kernel))⟩ (by decide +kernel) (by decide) rfl hM hR he rfl rfl hcat dg hcm hsm k
theorem jc_X5_89 (F : jF E x RX5 cc nL d cm sm) {i d' : Nat} {fs : List Value}   (dg : decode cc pc = .ok (.invokevirtual 89, 3)) (hM : jMd (jL x) E yX2_passOverWithoutRounds cX2_passOverWithoutRounds 2 none d' [.ref (E.1 + i)] h none h' 0 0) (he : h[i]? = some (.inr (2, fs))) (hR : d' + 1 ≤ d) (hcm : cells ≤ cm) (hsm : slots ≤ sm) (hcat : (st.map fun v => v.category).sum ≤ 8) (k : jG E x cells slots (pc + 3) lv (st) h') : jG E x cells slots pc lv (.ref (E.1 + i) :: st) h := jG_callV F (y := yX2_passOverWithoutRounds) (n := 0) (As := []) (rest := st) (ci := 2) ⟨(jm 294 (by decide +kernel) (by decide +kernel)), (jm 329 (by decide +kernel) (by decide +kernel)), (jm 292 (by decide +kernel) (by decide +kernel)), (jm 293 (by decide +kernel) (by decide +kernel)), (jm 46 (by decide +kernel) (by decide +kernel))⟩ (by decide +kernel) (by decide) rfl hM hR he rfl rfl hcat dg hcm hsm k
theorem jc_L_33 (F : jF E x RL cc nL d cm sm) {i d' : Nat} {fs : List Value} {a0 : Int32} {a1 : Int32} {r : Int32} (dg : decode cc pc = .ok (.invokevirtual 33, 3)) (hM : jMd (jL x) E yX5_about cX5_about 4 (some .int) d' [.ref (E.1 + i), .int a0, .int a1] h (some (.int r)) h' 0 0) (he : h[i]? = some (.inr (5, fs))) (hR : d' + 1 ≤ d) (hcm : cells ≤ cm) (hsm : slots ≤ sm) (hcat : (st.map fun v => v.category).sum ≤ 8) (k : jG E x cells slots (pc + 3) lv (.int r :: st) h') : jG E x cells slots pc lv (.int a1 :: .int a0 :: .ref (E.1 + i) :: st) h := jG_callV F (y := yX5_about) (n := 2) (As := [.int a0, .int a1]) (rest := st) (ci := 5) ⟨(jm 333 (by decide +kernel) (by decide +kernel)), (jm 330 (by decide +kernel) (by decide +kernel)), (jm 331 (by decide +kernel) (by decide +kernel)), (jm 332 (by decide +kernel) (by decide +kernel)), (jm 45 (by decide +kernel) (by decide +kernel))⟩ (by decide +kernel) (by decide) rfl hM hR he rfl rfl hcat dg hcm hsm k
theorem jc_X5_92 (F : jF E x RX5 cc nL d cm sm) {i d' : Nat} {fs : List Value} {a0 : Int32} {r : Int32} (dg : decode cc pc = .ok (.invokevirtual 92, 3)) (hM : jMd (jL x) E yX1_isInCup cX1_isInCup 2 (some .boolean) d' [.ref (E.1 + i), .int a0] h (some (.int r)) h' 0 0) (he : h[i]? = some (.inr (1, fs))) (hR : d' + 1 ≤ d) (hcm : cells ≤ cm) (hsm : slots ≤ sm) (hcat : (st.map fun v => v.category).sum ≤ 8) (k : jG E x cells slots (pc + 3) lv (.int r :: st) h') : jG E x cells slots pc lv (.int a0 :: .ref (E.1 + i) :: st) h := jG_callV F (y := yX1_isInCup) (n := 1) (As := [.int a0]) (rest := st) (ci := 1) ⟨(jm 337 (by decide +kernel) (by decide +kernel)), (jm 334 (by decide +kernel) (by decide +kernel)), (jm 335 (by decide +kernel) (by decide +kernel)), (jm 336 (by decide +kernel) (by decide +kernel)), (jm 47 (by decide +kernel) (by decide +kernel))⟩ (by decide +kernel) (by decide) rfl hM hR he rfl rfl hcat dg hcm hsm k
theorem jc_X5_95 (F : jF E x RX5 cc nL d cm sm) {i d' : Nat} {fs : List Value} {a0 : Int32} {r : Int32} (dg : decode cc pc = .ok (.invokevirtual 95, 3)) (hM : jMd (jL x) E yX1_doesLie cX1_doesLie 2 (some .boolean) d' [.ref (E.1 + i), .int a0] h (some (.int r)) h' 0 0) (he : h[i]? = some (.inr (1, fs))) (hR : d' + 1 ≤ d) (hcm : cells ≤ cm) (hsm : slots ≤ sm) (hcat : (st.map fun v => v.category).sum ≤ 8) (k : jG E x cells slots (pc + 3) lv (.int r :: st) h') : jG E x cells slots pc lv (.int a0 :: .ref (E.1 + i) :: st) h := jG_callV F (y := yX1_doesLie) (n := 1) (As := [.int a0]) (rest := st) (ci := 1) ⟨(jm 90 (by decide +kernel) (by decide +kernel)), (jm 338 (by decide +kernel) (by decide +kernel)), (jm 88 (by decide +kernel) (by decide +kernel)), (jm 89 (by decide +kernel) (by decide +kernel)), (jm 47 (by decide +kernel) (by decide +kernel))⟩ (by decide +kernel) (by decide) rfl hM hR he rfl rfl hcat dg hcm hsm k
theorem jc_X5_105 (F : jF E x RX5 cc nL d cm sm) {i d' : Nat} {fs : List Value} {a0 : Int32} {r : Int32} (dg : decode cc pc = .ok (.invokevirtual 105, 3)) (hM : jMd (jL x) E yX1_isFree cX1_isFree 2 (some .boolean) d' [.ref (E.1 + i), .int a0] h (some (.int r)) h' 0 0) (he : h[i]? = some (.inr (1, fs))) (hR : d' + 1 ≤ d) (hcm : cells ≤ cm) (hsm : slots ≤ sm) (hcat : (st.map fun v => v.category).sum ≤ 8) (k : jG E x cells slots (pc + 3) lv (.int r :: st) h') : jG E x cells slots pc lv (.int a0 :: .ref (E.1 + i) :: st) h := jG_callV F (y := yX1_isFree) (n := 1) (As := [.int a0]) (rest := st) (ci := 1) ⟨(jm 342 (by decide +kernel) (by decide +kernel)), (jm 339 (by decide +kernel) (by decide +kernel)), (jm 340 (by decide +kernel) (by decide +kernel)), (jm 341 (by decide +kernel) (by decide +kernel)), (jm 47 (by decide +kernel) (by decide +kernel))⟩ (by decide +kernel) (by decide) rfl hM hR he rfl rfl hcat dg hcm hsm k
theorem jc_X5_108 (F : jF E x RX5 cc nL d cm sm) {i d' : Nat} {fs : List Value} {a0 : Int32} {r : Int32} (dg : decode cc pc = .ok (.invokevirtual 108, 3)) (hM : jMd (jL x) E yX1_coveredBy cX1_coveredBy 4 (some .int) d' [.ref (E.1 + i), .int a0] h (some (.int r)) h' 0 0) (he : h[i]? = some (.inr (1, fs))) (hR : d' + 1 ≤ d) (hcm : cells ≤ cm) (hsm : slots ≤ sm) (hcat : (st.map fun v => v.category).sum ≤ 8) (k : jG E x cells slots (pc + 3) lv (.int r :: st) h') : jG E x cells slots pc lv (.int a0 :: .ref (E.1 + i) :: st) h := jG_callV F (y := yX1_coveredBy) (n := 1) (As := [.int a0]) (rest := st) (ci := 1) ⟨(jm 346 (by decide +kernel) (by decide +kernel)), (jm 343 (by decide +kernel) (by decide +kernel)), (jm 344 (by decide +kernel) (by decide +kernel)), (jm 345 (by decide +kernel) (by decide +kernel)), (jm 47 (by decide +kernel) (by decide +kernel))⟩ (by decide +kernel) (by decide) rfl hM hR he rfl rfl hcat dg hcm hsm k
theorem jc_X5_114 (F : jF E x RX5 cc nL d cm sm) {i d' : Nat} {fs : List Value} {a0 : Int32} {r : Int32} (dg : decode cc pc = .ok (.invokevirtual 114, 3)) (hM : jMd (jL x) E yX1_pileOf cX1_pileOf 4 (some .int) d' [.ref (E.1 + i), .int a0] h (some (.int r)) h' 0 0) (he : h[i]? = some (.inr (1, fs))) (hR : d' + 1 ≤ d) (hcm : cells ≤ cm) (hsm : slots ≤ sm) (hcat : (st.map fun v => v.category).sum ≤ 8) (k : jG E x cells slots (pc + 3) lv (.int r :: st) h') : jG E x cells slots pc lv (.int a0 :: .ref (E.1 + i) :: st) h := jG_callV F (y := yX1_pileOf) (n := 1) (As := [.int a0]) (rest := st) (ci := 1) ⟨(jm 350 (by decide +kernel) (by decide +kernel)), (jm 347 (by decide +kernel) (by decide +kernel)), (jm 348 (by decide +kernel) (by decide +kernel)), (jm 349 (by decide +kernel) (by decide +kernel)), (jm 47 (by decide +kernel) (by decide +kernel))⟩ (by decide +kernel) (by decide) rfl hM hR he rfl rfl hcat dg hcm hsm k
theorem jc_X1_72 (F : jF E x RX1 cc nL d cm sm) {i d' : Nat} {fs : List Value} {a0 : Int32} {r : Int32} (dg : decode cc pc = .ok (.invokevirtual 72, 3)) (hM : jMd (jL x) E yX1_withNeighbours cX1_withNeighbours 4 (some .int) d' [.ref (E.1 + i), .int a0] h (some (.int r)) h' 0 0) (he : h[i]? = some (.inr (1, fs))) (hR : d' + 1 ≤ d) (hcm : cells ≤ cm) (hsm : slots ≤ sm) (hcat : (st.map fun v => v.category).sum ≤ 8) (k : jG E x cells slots (pc + 3) lv (.int r :: st) h') : jG E x cells slots pc lv (.int a0 :: .ref (E.1 + i) :: st) h := jG_callV F (y := yX1_withNeighbours) (n := 1) (As := [.int a0]) (rest := st) (ci := 1) ⟨(jm 354 (by decide +kernel) (by decide +kernel)), (jm 351 (by decide +kernel) (by decide +kernel)), (jm 353 (by decide +kernel) (by decide +kernel)), (jm 2 (by decide +kernel) (by decide +kernel)), (jm 47 (by decide +kernel) (by decide +kernel))⟩ (by decide +kernel) (by decide) rfl hM hR he rfl rfl hcat dg hcm hsm k
theorem jc_L_37 (F : jF E x RL cc nL d cm sm) {i d' : Nat} {fs : List Value} {a0 : Int32} {a1 : Int32} {a2 : Int32} {r : Int32} (dg : decode cc pc = .ok (.invokevirtual 37, 3)) (hM : jMd (jL x) E yX5_shoot cX5_shoot 4 (some .int) d' [.ref (E.1 + i), .int a0, .int a1, .int a2] h (some (.int r)) h' 0 0) (he : h[i]? = some (.inr (5, fs))) (hR : d' + 1 ≤ d) (hcm : cells ≤ cm) (hsm : slots ≤ sm) (hcat : (st.map fun v => v.category).sum ≤ 8) (k : jG E x cells slots (pc + 3) lv (.int r :: st) h') : jG E x cells slots pc lv (.int a2 :: .int a1 :: .int a0 :: .ref (E.1 + i) :: st) h := jG_callV F (y := yX5_shoot) (n := 3) (As := [.int a0, .int a1, .int a2]) (rest := st) (ci := 5) ⟨(jm 358 (by decide +kernel) (by decide +kernel)), (jm 355 (by decide +kernel) (by decide +kernel)), (jm 356 (by decide +kernel) (by decide +kernel)), (jm 357 (by decide +kernel) (by decide +kernel)), (jm 45 (by decide +kernel) (by decide +kernel))⟩ (by decide +kernel) (by decide) rfl hM hR he rfl rfl hcat dg hcm hsm k
theorem jc_X5_120 (F : jF E x RX5 cc nL d cm sm) {i d' : Nat} {fs : List Value} {a0 : Int32} {r : Int32} (dg : decode cc pc = .ok (.invokevirtual 120, 3)) (hM : jMd (jL x) E yX2_mayPlay cX2_mayPlay 2 (some .boolean) d' [.ref (E.1 + i), .int a0] h (some (.int r)) h' 0 0) (he : h[i]? = some (.inr (2, fs))) (hR : d' + 1 ≤ d) (hcm : cells ≤ cm) (hsm : slots ≤ sm) (hcat : (st.map fun v => v.category).sum ≤ 8) (k : jG E x cells slots (pc + 3) lv (.int r :: st) h') : jG E x cells slots pc lv (.int a0 :: .ref (E.1 + i) :: st) h := jG_callV F (y := yX2_mayPlay) (n := 1) (As := [.int a0]) (rest := st) (ci := 2) ⟨(jm 362 (by decide +kernel) (by decide +kernel)), (jm 359 (by decide +kernel) (by decide +kernel)), (jm 360 (by decide +kernel) (by decide +kernel)), (jm 361 (by decide +kernel) (by decide +kernel)), (jm 46 (by decide +kernel) (by decide +kernel))⟩ (by decide +kernel) (by decide) rfl hM hR he rfl rfl hcat dg hcm hsm k
theorem jc_X2_62 (F : jF E x RX2 cc nL d cm sm) {i d' : Nat} {fs : List Value} {a0 : Int32} {r : Int32} (dg : decode cc pc = .ok (.invokevirtual 62, 3)) (hM : jMd (jL x) E yX1_isFree cX1_isFree 2 (some .boolean) d' [.ref (E.1 + i), .int a0] h (some (.int r)) h' 0 0) (he : h[i]? = some (.inr (1, fs))) (hR : d' + 1 ≤ d) (hcm : cells ≤ cm) (hsm : slots ≤ sm) (hcat : (st.map fun v => v.category).sum ≤ 8) (k : jG E x cells slots (pc + 3) lv (.int r :: st) h') : jG E x cells slots pc lv (.int a0 :: .ref (E.1 + i) :: st) h := jG_callV F (y := yX1_isFree) (n := 1) (As := [.int a0]) (rest := st) (ci := 1) ⟨(jm 342 (by decide +kernel) (by decide +kernel)), (jm 364 (by decide +kernel) (by decide +kernel)), (jm 340 (by decide +kernel) (by decide +kernel)), (jm 341 (by decide +kernel) (by decide +kernel)), (jm 47 (by decide +kernel) (by decide +kernel))⟩ (by decide +kernel) (by decide) rfl hM hR he rfl rfl hcat dg hcm hsm k
theorem jc_X5_123 (F : jF E x RX5 cc nL d cm sm) {i d' : Nat} {fs : List Value} {a0 : Int32} {a1 : Int32} {a2 : Int32} {r : Int32} (dg : decode cc pc = .ok (.invokevirtual 123, 3)) (hM : jMd (jL x) E yX2_playShot cX2_playShot 12 (some .boolean) d' [.ref (E.1 + i), .int a0, .int a1, .int a2] h (some (.int r)) h' 0 0) (he : h[i]? = some (.inr (2, fs))) (hR : d' + 1 ≤ d) (hcm : cells ≤ cm) (hsm : slots ≤ sm) (hcat : (st.map fun v => v.category).sum ≤ 8) (k : jG E x cells slots (pc + 3) lv (.int r :: st) h') : jG E x cells slots pc lv (.int a2 :: .int a1 :: .int a0 :: .ref (E.1 + i) :: st) h := jG_callV F (y := yX2_playShot) (n := 3) (As := [.int a0, .int a1, .int a2]) (rest := st) (ci := 2) ⟨(jm 368 (by decide +kernel) (by decide +kernel)), (jm 365 (by decide +kernel) (by decide +kernel)), (jm 366 (by decide +kernel) (by decide +kernel)), (jm 367 (by decide +kernel) (by decide +kernel)), (jm 46 (by decide +kernel) (by decide +kernel))⟩ (by decide +kernel) (by decide) rfl hM hR he rfl rfl hcat dg hcm hsm k
theorem jc_X5_204 (F : jF E x RX5 cc nL d 0 0) {a : Int32} (dg : decode cc pc = .ok (.invokestatic 204, 3)) (hd : 1 ≤ d) (hcat : (st.map fun v => v.category).sum ≤ 8) (k : jG E x 0 0 (pc + 3) lv (.int (if 0 ≤ a then a else 0 - a) :: st) h) : jG E x 0 0 pc lv (.int a :: st) h := jG_abs F (jm 372 (by decide +kernel) (by decide +kernel)) (jm 373 (by decide +kernel) (by decide +kernel)) (jm 52 (by decide +kernel) (by decide +kernel)) (jm 374 (by decide +kernel) (by decide +kernel)) hd hcat dg k
theorem jc_X5_236 (F : jF E x RX5 cc nL d 0 0) {a b : Int32} (dg : decode cc pc = .ok (.invokestatic 236, 3)) (hd : 1 ≤ d) (hcat : (st.map fun v => v.category).sum ≤ 8) (k : jG E x 0 0 (pc + 3) lv (.int (if a < b then b else a) :: st) h) : jG E x 0 0 pc lv (.int b :: .int a :: st) h := jG_max F (jm 375 (by decide +kernel) (by decide +kernel)) (jm 376 (by decide +kernel) (by decide +kernel)) (jm 52 (by decide +kernel) (by decide +kernel)) (jm 377 (by decide +kernel) (by decide +kernel)) hd hcat dg k
theorem jc_X2_83 (F : jF E x RX2 cc nL d cm sm) {i d' : Nat} {fs : List Value} {a0 : Int32} {r : Int32} (dg : decode cc pc = .ok (.invokevirtual 83, 3)) (hM : jMd (jL x) E yX2_drawOff cX2_drawOff 2 (some .int) d' [.ref (E.1 + i), .int a0] h (some (.int r)) h' 0 0) (he : h[i]? = some (.inr (2, fs))) (hR : d' + 1 ≤ d) (hcm : cells ≤ cm) (hsm : slots ≤ sm) (hcat : (st.map fun v => v.category).sum ≤ 8) (k : jG E x cells slots (pc + 3) lv (.int r :: st) h') : jG E x cells slots pc lv (.int a0 :: .ref (E.1 + i) :: st) h := jG_callV F (y := yX2_drawOff) (n := 1) (As := [.int a0]) (rest := st) (ci := 2) ⟨(jm 382 (by decide +kernel) (by decide +kernel)), (jm 379 (by decide +kernel) (by decide +kernel)), (jm 381 (by decide +kernel) (by decide +kernel)), (jm 3 (by decide +kernel) (by decide +kernel)), (jm 46 (by decide +kernel) (by decide +kernel))⟩ (by decide +kernel) (by decide) rfl hM hR he rfl rfl hcat dg hcm hsm k
theorem jc_X2_86 (F : jF E x RX2 cc nL d cm sm) {d' : Nat} {a0 : Int32} {a1 : Int32} {r : Int32} (dg : decode cc pc = .ok (.invokestatic 86, 3)) (hM : jMd (jL x) E yX2_doesCupTake cX2_doesCupTake 4 (some .boolean) d' [.int a0, .int a1] h (some (.int r)) h' 0 0) (hR : d' + 1 ≤ d) (hcm : cells ≤ cm) (hsm : slots ≤ sm) (hcat : (st.map fun v => v.category).sum ≤ 8) (k : jG E x cells slots (pc + 3) lv (.int r :: st) h') : jG E x cells slots pc lv (.int a1 :: .int a0 :: st) h := jG_callS F (y := yX2_doesCupTake) (n := 2) (As := [.int a0, .int a1]) (rest := st) ⟨(jm 387 (by decide +kernel) (by decide +kernel)), (jm 385 (by decide +kernel) (by decide +kernel)), (jm 386 (by decide +kernel) (by decide +kernel)), (jm 46 (by decide +kernel) (by decide +kernel))⟩ (by decide +kernel) (by decide) hM hR rfl rfl hcat dg hcm hsm k
theorem jc_X2_90 (F : jF E x RX2 cc nL d cm sm) {i d' : Nat} {fs : List Value} {a0 : Int32} {a1 : Int32} {a2 : Int32}  (dg : decode cc pc = .ok (.invokevirtual 90, 3)) (hM : jMd (jL x) E yX1_bring cX1_bring 5 none d' [.ref (E.1 + i), .int a0, .int a1, .int a2] h none h' 0 0) (he : h[i]? = some (.inr (1, fs))) (hR : d' + 1 ≤ d) (hcm : cells ≤ cm) (hsm : slots ≤ sm) (hcat : (st.map fun v => v.category).sum ≤ 8) (k : jG E x cells slots (pc + 3) lv (st) h') : jG E x cells slots pc lv (.int a2 :: .int a1 :: .int a0 :: .ref (E.1 + i) :: st) h := jG_callV F (y := yX1_bring) (n := 3) (As := [.int a0, .int a1, .int a2]) (rest := st) (ci := 1) ⟨(jm 82 (by decide +kernel) (by decide +kernel)), (jm 388 (by decide +kernel) (by decide +kernel)), (jm 80 (by decide +kernel) (by decide +kernel)), (jm 81 (by decide +kernel) (by decide +kernel)), (jm 47 (by decide +kernel) (by decide +kernel))⟩ (by decide +kernel) (by decide) rfl hM hR he rfl rfl hcat dg hcm hsm k
theorem jc_X2_94 (F : jF E x RX2 cc nL d cm sm) {d' : Nat} {a0 : Int32} {r : Int32} (dg : decode cc pc = .ok (.invokestatic 94, 3)) (hM : jMd (jL x) E yX2_signOf cX2_signOf 1 (some .int) d' [.int a0] h (some (.int r)) h' 0 0) (hR : d' + 1 ≤ d) (hcm : cells ≤ cm) (hsm : slots ≤ sm) (hcat : (st.map fun v => v.category).sum ≤ 8) (k : jG E x cells slots (pc + 3) lv (.int r :: st) h') : jG E x cells slots pc lv (.int a0 :: st) h := jG_callS F (y := yX2_signOf) (n := 1) (As := [.int a0]) (rest := st) ⟨(jm 391 (by decide +kernel) (by decide +kernel)), (jm 389 (by decide +kernel) (by decide +kernel)), (jm 390 (by decide +kernel) (by decide +kernel)), (jm 46 (by decide +kernel) (by decide +kernel))⟩ (by decide +kernel) (by decide) hM hR rfl rfl hcat dg hcm hsm k
theorem jc_X2_97 (F : jF E x RX2 cc nL d cm sm) {d' : Nat} {a0 : Int32} {r : Int32} (dg : decode cc pc = .ok (.invokestatic 97, 3)) (hM : jMd (jL x) E yX2_nearestOnMat cX2_nearestOnMat 1 (some .int) d' [.int a0] h (some (.int r)) h' 0 0) (hR : d' + 1 ≤ d) (hcm : cells ≤ cm) (hsm : slots ≤ sm) (hcat : (st.map fun v => v.category).sum ≤ 8) (k : jG E x cells slots (pc + 3) lv (.int r :: st) h') : jG E x cells slots pc lv (.int a0 :: st) h := jG_callS F (y := yX2_nearestOnMat) (n := 1) (As := [.int a0]) (rest := st) ⟨(jm 394 (by decide +kernel) (by decide +kernel)), (jm 392 (by decide +kernel) (by decide +kernel)), (jm 393 (by decide +kernel) (by decide +kernel)), (jm 46 (by decide +kernel) (by decide +kernel))⟩ (by decide +kernel) (by decide) hM hR rfl rfl hcat dg hcm hsm k
theorem jc_X2_120 (F : jF E x RX2 cc nL d 0 0) {a b : Int32} (dg : decode cc pc = .ok (.invokestatic 120, 3)) (hd : 1 ≤ d) (hcat : (st.map fun v => v.category).sum ≤ 8) (k : jG E x 0 0 (pc + 3) lv (.int (if b < a then b else a) :: st) h) : jG E x 0 0 pc lv (.int b :: .int a :: st) h := jG_min F (jm 395 (by decide +kernel) (by decide +kernel)) (jm 396 (by decide +kernel) (by decide +kernel)) (jm 52 (by decide +kernel) (by decide +kernel)) (jm 397 (by decide +kernel) (by decide +kernel)) hd hcat dg k
theorem jc_X2_126 (F : jF E x RX2 cc nL d 0 0) {a b : Int32} (dg : decode cc pc = .ok (.invokestatic 126, 3)) (hd : 1 ≤ d) (hcat : (st.map fun v => v.category).sum ≤ 8) (k : jG E x 0 0 (pc + 3) lv (.int (if a < b then b else a) :: st) h) : jG E x 0 0 pc lv (.int b :: .int a :: st) h := jG_max F (jm 398 (by decide +kernel) (by decide +kernel)) (jm 376 (by decide +kernel) (by decide +kernel)) (jm 52 (by decide +kernel) (by decide +kernel)) (jm 377 (by decide +kernel) (by decide +kernel)) hd hcat dg k
theorem jc_X2_100 (F : jF E x RX2 cc nL d cm sm) {i d' : Nat} {fs : List Value} {a0 : Int32}  (dg : decode cc pc = .ok (.invokevirtual 100, 3)) (hM : jMd (jL x) E yX2_endTurn cX2_endTurn 3 none d' [.ref (E.1 + i), .int a0] h none h' 0 0) (he : h[i]? = some (.inr (2, fs))) (hR : d' + 1 ≤ d) (hcm : cells ≤ cm) (hsm : slots ≤ sm) (hcat : (st.map fun v => v.category).sum ≤ 8) (k : jG E x cells slots (pc + 3) lv (st) h') : jG E x cells slots pc lv (.int a0 :: .ref (E.1 + i) :: st) h := jG_callV F (y := yX2_endTurn) (n := 1) (As := [.int a0]) (rest := st) (ci := 2) ⟨(jm 402 (by decide +kernel) (by decide +kernel)), (jm 399 (by decide +kernel) (by decide +kernel)), (jm 401 (by decide +kernel) (by decide +kernel)), (jm 4 (by decide +kernel) (by decide +kernel)), (jm 46 (by decide +kernel) (by decide +kernel))⟩ (by decide +kernel) (by decide) rfl hM hR he rfl rfl hcat dg hcm hsm k
theorem jc_X2_107 (F : jF E x RX2 cc nL d cm sm) {i d' : Nat} {fs : List Value}   (dg : decode cc pc = .ok (.invokevirtual 107, 3)) (hM : jMd (jL x) E yX2_stepTurn cX2_stepTurn 1 none d' [.ref (E.1 + i)] h none h' 0 0) (he : h[i]? = some (.inr (2, fs))) (hR : d' + 1 ≤ d) (hcm : cells ≤ cm) (hsm : slots ≤ sm) (hcat : (st.map fun v => v.category).sum ≤ 8) (k : jG E x cells slots (pc + 3) lv (st) h') : jG E x cells slots pc lv (.ref (E.1 + i) :: st) h := jG_callV F (y := yX2_stepTurn) (n := 0) (As := []) (rest := st) (ci := 2) ⟨(jm 406 (by decide +kernel) (by decide +kernel)), (jm 403 (by decide +kernel) (by decide +kernel)), (jm 405 (by decide +kernel) (by decide +kernel)), (jm 5 (by decide +kernel) (by decide +kernel)), (jm 46 (by decide +kernel) (by decide +kernel))⟩ (by decide +kernel) (by decide) rfl hM hR he rfl rfl hcat dg hcm hsm k
theorem jc_L_41 (F : jF E x RL cc nL d cm sm) {i d' : Nat} {fs : List Value} {a0 : Int32} {r : Int32} (dg : decode cc pc = .ok (.invokevirtual 41, 3)) (hM : jMd (jL x) E yX5_blow cX5_blow 3 (some .int) d' [.ref (E.1 + i), .int a0] h (some (.int r)) h' 0 0) (he : h[i]? = some (.inr (5, fs))) (hR : d' + 1 ≤ d) (hcm : cells ≤ cm) (hsm : slots ≤ sm) (hcat : (st.map fun v => v.category).sum ≤ 8) (k : jG E x cells slots (pc + 3) lv (.int r :: st) h') : jG E x cells slots pc lv (.int a0 :: .ref (E.1 + i) :: st) h := jG_callV F (y := yX5_blow) (n := 1) (As := [.int a0]) (rest := st) (ci := 5) ⟨(jm 410 (by decide +kernel) (by decide +kernel)), (jm 407 (by decide +kernel) (by decide +kernel)), (jm 408 (by decide +kernel) (by decide +kernel)), (jm 409 (by decide +kernel) (by decide +kernel)), (jm 45 (by decide +kernel) (by decide +kernel))⟩ (by decide +kernel) (by decide) rfl hM hR he rfl rfl hcat dg hcm hsm k
theorem jc_X5_126 (F : jF E x RX5 cc nL d cm sm) {d' : Nat} {a0 : Int32} {r : Int32} (dg : decode cc pc = .ok (.invokestatic 126, 3)) (hM : jMd (jL x) E yJ6_bitCount_0f7a4 cJ6_bitCount_0f7a4 1 (some .int) d' [.int a0] h (some (.int r)) h' 0 0) (hR : d' + 1 ≤ d) (hcm : cells ≤ cm) (hsm : slots ≤ sm) (hcat : (st.map fun v => v.category).sum ≤ 8) (k : jG E x cells slots (pc + 3) lv (.int r :: st) h') : jG E x cells slots pc lv (.int a0 :: st) h := jG_callS F (y := yJ6_bitCount_0f7a4) (n := 1) (As := [.int a0]) (rest := st) ⟨(jm 413 (by decide +kernel) (by decide +kernel)), (jm 411 (by decide +kernel) (by decide +kernel)), (jm 412 (by decide +kernel) (by decide +kernel)), (jm 53 (by decide +kernel) (by decide +kernel))⟩ (by decide +kernel) (by decide) hM hR rfl rfl hcat dg hcm hsm k
theorem jc_X5_131 (F : jF E x RX5 cc nL d cm sm) {i d' : Nat} {fs : List Value} {a0 : Int32}  (dg : decode cc pc = .ok (.invokevirtual 131, 3)) (hM : jMd (jL x) E yX2_blowApart cX2_blowApart 5 none d' [.ref (E.1 + i), .int a0] h none h' 0 0) (he : h[i]? = some (.inr (2, fs))) (hR : d' + 1 ≤ d) (hcm : cells ≤ cm) (hsm : slots ≤ sm) (hcat : (st.map fun v => v.category).sum ≤ 8) (k : jG E x cells slots (pc + 3) lv (st) h') : jG E x cells slots pc lv (.int a0 :: .ref (E.1 + i) :: st) h := jG_callV F (y := yX2_blowApart) (n := 1) (As := [.int a0]) (rest := st) (ci := 2) ⟨(jm 420 (by decide +kernel) (by decide +kernel)), (jm 417 (by decide +kernel) (by decide +kernel)), (jm 418 (by decide +kernel) (by decide +kernel)), (jm 419 (by decide +kernel) (by decide +kernel)), (jm 46 (by decide +kernel) (by decide +kernel))⟩ (by decide +kernel) (by decide) rfl hM hR he rfl rfl hcat dg hcm hsm k
theorem jc_L_45 (F : jF E x RL cc nL d cm sm) {i d' : Nat} {fs : List Value} {a0 : Int32} {r : Int32} (dg : decode cc pc = .ok (.invokevirtual 45, 3)) (hM : jMd (jL x) E yX5_game cX5_game 3 (some .int) d' [.ref (E.1 + i), .int a0] h (some (.int r)) h' 0 0) (he : h[i]? = some (.inr (5, fs))) (hR : d' + 1 ≤ d) (hcm : cells ≤ cm) (hsm : slots ≤ sm) (hcat : (st.map fun v => v.category).sum ≤ 8) (k : jG E x cells slots (pc + 3) lv (.int r :: st) h') : jG E x cells slots pc lv (.int a0 :: .ref (E.1 + i) :: st) h := jG_callV F (y := yX5_game) (n := 1) (As := [.int a0]) (rest := st) (ci := 5) ⟨(jm 424 (by decide +kernel) (by decide +kernel)), (jm 421 (by decide +kernel) (by decide +kernel)), (jm 422 (by decide +kernel) (by decide +kernel)), (jm 423 (by decide +kernel) (by decide +kernel)), (jm 45 (by decide +kernel) (by decide +kernel))⟩ (by decide +kernel) (by decide) rfl hM hR he rfl rfl hcat dg hcm hsm k
theorem jc_X5_135 (F : jF E x RX5 cc nL d cm sm) {i d' : Nat} {fs : List Value}  {r : Int32} (dg : decode cc pc = .ok (.invokevirtual 135, 3)) (hM : jMd (jL x) E yX2_isOver cX2_isOver 1 (some .boolean) d' [.ref (E.1 + i)] h (some (.int r)) h' 0 0) (he : h[i]? = some (.inr (2, fs))) (hR : d' + 1 ≤ d) (hcm : cells ≤ cm) (hsm : slots ≤ sm) (hcat : (st.map fun v => v.category).sum ≤ 8) (k : jG E x cells slots (pc + 3) lv (.int r :: st) h') : jG E x cells slots pc lv (.ref (E.1 + i) :: st) h := jG_callV F (y := yX2_isOver) (n := 0) (As := []) (rest := st) (ci := 2) ⟨(jm 298 (by decide +kernel) (by decide +kernel)), (jm 425 (by decide +kernel) (by decide +kernel)), (jm 296 (by decide +kernel) (by decide +kernel)), (jm 297 (by decide +kernel) (by decide +kernel)), (jm 46 (by decide +kernel) (by decide +kernel))⟩ (by decide +kernel) (by decide) rfl hM hR he rfl rfl hcat dg hcm hsm k
theorem jc_X5_142 (F : jF E x RX5 cc nL d cm sm) {i d' : Nat} {fs : List Value}  {r : Int32} (dg : decode cc pc = .ok (.invokevirtual 142, 3)) (hM : jMd (jL x) E yX2_roundsLeft cX2_roundsLeft 1 (some .int) d' [.ref (E.1 + i)] h (some (.int r)) h' 0 0) (he : h[i]? = some (.inr (2, fs))) (hR : d' + 1 ≤ d) (hcm : cells ≤ cm) (hsm : slots ≤ sm) (hcat : (st.map fun v => v.category).sum ≤ 8) (k : jG E x cells slots (pc + 3) lv (.int r :: st) h') : jG E x cells slots pc lv (.ref (E.1 + i) :: st) h := jG_callV F (y := yX2_roundsLeft) (n := 0) (As := []) (rest := st) (ci := 2) ⟨(jm 429 (by decide +kernel) (by decide +kernel)), (jm 426 (by decide +kernel) (by decide +kernel)), (jm 427 (by decide +kernel) (by decide +kernel)), (jm 428 (by decide +kernel) (by decide +kernel)), (jm 46 (by decide +kernel) (by decide +kernel))⟩ (by decide +kernel) (by decide) rfl hM hR he rfl rfl hcat dg hcm hsm k
theorem jc_X5_146 (F : jF E x RX5 cc nL d cm sm) {i d' : Nat} {fs : List Value} {a0 : Int32} {r : Int32} (dg : decode cc pc = .ok (.invokevirtual 146, 3)) (hM : jMd (jL x) E yX1_freeOf cX1_freeOf 2 (some .int) d' [.ref (E.1 + i), .int a0] h (some (.int r)) h' 0 0) (he : h[i]? = some (.inr (1, fs))) (hR : d' + 1 ≤ d) (hcm : cells ≤ cm) (hsm : slots ≤ sm) (hcat : (st.map fun v => v.category).sum ≤ 8) (k : jG E x cells slots (pc + 3) lv (.int r :: st) h') : jG E x cells slots pc lv (.int a0 :: .ref (E.1 + i) :: st) h := jG_callV F (y := yX1_freeOf) (n := 1) (As := [.int a0]) (rest := st) (ci := 1) ⟨(jm 306 (by decide +kernel) (by decide +kernel)), (jm 430 (by decide +kernel) (by decide +kernel)), (jm 304 (by decide +kernel) (by decide +kernel)), (jm 305 (by decide +kernel) (by decide +kernel)), (jm 47 (by decide +kernel) (by decide +kernel))⟩ (by decide +kernel) (by decide) rfl hM hR he rfl rfl hcat dg hcm hsm k
theorem jc_L_49 (F : jF E x RL cc nL d cm sm) {i d' : Nat} {fs : List Value} {a0 : Int32} {r : Int32} (dg : decode cc pc = .ok (.invokevirtual 49, 3)) (hM : jMd (jL x) E yX5_score cX5_score 2 (some .int) d' [.ref (E.1 + i), .int a0] h (some (.int r)) h' 0 0) (he : h[i]? = some (.inr (5, fs))) (hR : d' + 1 ≤ d) (hcm : cells ≤ cm) (hsm : slots ≤ sm) (hcat : (st.map fun v => v.category).sum ≤ 8) (k : jG E x cells slots (pc + 3) lv (.int r :: st) h') : jG E x cells slots pc lv (.int a0 :: .ref (E.1 + i) :: st) h := jG_callV F (y := yX5_score) (n := 1) (As := [.int a0]) (rest := st) (ci := 5) ⟨(jm 434 (by decide +kernel) (by decide +kernel)), (jm 431 (by decide +kernel) (by decide +kernel)), (jm 432 (by decide +kernel) (by decide +kernel)), (jm 433 (by decide +kernel) (by decide +kernel)), (jm 45 (by decide +kernel) (by decide +kernel))⟩ (by decide +kernel) (by decide) rfl hM hR he rfl rfl hcat dg hcm hsm k
theorem jc_X5_149 (F : jF E x RX5 cc nL d cm sm) {d' : Nat} {a0 : Int32} {r : Int32} (dg : decode cc pc = .ok (.invokestatic 149, 3)) (hM : jMd (jL x) E yX5_isPlayer cX5_isPlayer 1 (some .boolean) d' [.int a0] h (some (.int r)) h' 0 0) (hR : d' + 1 ≤ d) (hcm : cells ≤ cm) (hsm : slots ≤ sm) (hcat : (st.map fun v => v.category).sum ≤ 8) (k : jG E x cells slots (pc + 3) lv (.int r :: st) h') : jG E x cells slots pc lv (.int a0 :: st) h := jG_callS F (y := yX5_isPlayer) (n := 1) (As := [.int a0]) (rest := st) ⟨(jm 437 (by decide +kernel) (by decide +kernel)), (jm 435 (by decide +kernel) (by decide +kernel)), (jm 436 (by decide +kernel) (by decide +kernel)), (jm 45 (by decide +kernel) (by decide +kernel))⟩ (by decide +kernel) (by decide) hM hR rfl rfl hcat dg hcm hsm k
theorem jc_X5_152 (F : jF E x RX5 cc nL d cm sm) {i d' : Nat} {fs : List Value} {a0 : Int32} {r : Int32} (dg : decode cc pc = .ok (.invokevirtual 152, 3)) (hM : jMd (jL x) E yX1_scoreOf cX1_scoreOf 3 (some .int) d' [.ref (E.1 + i), .int a0] h (some (.int r)) h' 0 0) (he : h[i]? = some (.inr (1, fs))) (hR : d' + 1 ≤ d) (hcm : cells ≤ cm) (hsm : slots ≤ sm) (hcat : (st.map fun v => v.category).sum ≤ 8) (k : jG E x cells slots (pc + 3) lv (.int r :: st) h') : jG E x cells slots pc lv (.int a0 :: .ref (E.1 + i) :: st) h := jG_callV F (y := yX1_scoreOf) (n := 1) (As := [.int a0]) (rest := st) (ci := 1) ⟨(jm 441 (by decide +kernel) (by decide +kernel)), (jm 438 (by decide +kernel) (by decide +kernel)), (jm 439 (by decide +kernel) (by decide +kernel)), (jm 440 (by decide +kernel) (by decide +kernel)), (jm 47 (by decide +kernel) (by decide +kernel))⟩ (by decide +kernel) (by decide) rfl hM hR he rfl rfl hcat dg hcm hsm k
theorem jc_X1_75 (F : jF E x RX1 cc nL d cm sm) {d' : Nat} {a0 : Int32} {r : Int32} (dg : decode cc pc = .ok (.invokestatic 75, 3)) (hM : jMd (jL x) E yJ6_bitCount_0f7a4 cJ6_bitCount_0f7a4 1 (some .int) d' [.int a0] h (some (.int r)) h' 0 0) (hR : d' + 1 ≤ d) (hcm : cells ≤ cm) (hsm : slots ≤ sm) (hcat : (st.map fun v => v.category).sum ≤ 8) (k : jG E x cells slots (pc + 3) lv (.int r :: st) h') : jG E x cells slots pc lv (.int a0 :: st) h := jG_callS F (y := yJ6_bitCount_0f7a4) (n := 1) (As := [.int a0]) (rest := st) ⟨(jm 413 (by decide +kernel) (by decide +kernel)), (jm 442 (by decide +kernel) (by decide +kernel)), (jm 412 (by decide +kernel) (by decide +kernel)), (jm 53 (by decide +kernel) (by decide +kernel))⟩ (by decide +kernel) (by decide) hM hR rfl rfl hcat dg hcm hsm k
theorem jc_X1_80 (F : jF E x RX1 cc nL d cm sm) {i d' : Nat} {fs : List Value} {a0 : Int32} {r : Int32} (dg : decode cc pc = .ok (.invokevirtual 80, 3)) (hM : jMd (jL x) E yX1_freeOf cX1_freeOf 2 (some .int) d' [.ref (E.1 + i), .int a0] h (some (.int r)) h' 0 0) (he : h[i]? = some (.inr (1, fs))) (hR : d' + 1 ≤ d) (hcm : cells ≤ cm) (hsm : slots ≤ sm) (hcat : (st.map fun v => v.category).sum ≤ 8) (k : jG E x cells slots (pc + 3) lv (.int r :: st) h') : jG E x cells slots pc lv (.int a0 :: .ref (E.1 + i) :: st) h := jG_callV F (y := yX1_freeOf) (n := 1) (As := [.int a0]) (rest := st) (ci := 1) ⟨(jm 306 (by decide +kernel) (by decide +kernel)), (jm 443 (by decide +kernel) (by decide +kernel)), (jm 304 (by decide +kernel) (by decide +kernel)), (jm 305 (by decide +kernel) (by decide +kernel)), (jm 47 (by decide +kernel) (by decide +kernel))⟩ (by decide +kernel) (by decide) rfl hM hR he rfl rfl hcat dg hcm hsm k
theorem jc_L_53 (F : jF E x RL cc nL d cm sm) {i d' : Nat} {fs : List Value} {a0 : Int32} {r : Int32} (dg : decode cc pc = .ok (.invokevirtual 53, 3)) (hM : jMd (jL x) E yX5_twelfths cX5_twelfths 2 (some .int) d' [.ref (E.1 + i), .int a0] h (some (.int r)) h' 0 0) (he : h[i]? = some (.inr (5, fs))) (hR : d' + 1 ≤ d) (hcm : cells ≤ cm) (hsm : slots ≤ sm) (hcat : (st.map fun v => v.category).sum ≤ 8) (k : jG E x cells slots (pc + 3) lv (.int r :: st) h') : jG E x cells slots pc lv (.int a0 :: .ref (E.1 + i) :: st) h := jG_callV F (y := yX5_twelfths) (n := 1) (As := [.int a0]) (rest := st) (ci := 5) ⟨(jm 447 (by decide +kernel) (by decide +kernel)), (jm 444 (by decide +kernel) (by decide +kernel)), (jm 445 (by decide +kernel) (by decide +kernel)), (jm 446 (by decide +kernel) (by decide +kernel)), (jm 45 (by decide +kernel) (by decide +kernel))⟩ (by decide +kernel) (by decide) rfl hM hR he rfl rfl hcat dg hcm hsm k
theorem jc_X5_155 (F : jF E x RX5 cc nL d cm sm) {i d' : Nat} {fs : List Value} {a0 : Int32} {r : Int32} (dg : decode cc pc = .ok (.invokevirtual 155, 3)) (hM : jMd (jL x) E yX5_twelfthsOf cX5_twelfthsOf 7 (some .int) d' [.ref (E.1 + i), .int a0] h (some (.int r)) h' 0 0) (he : h[i]? = some (.inr (5, fs))) (hR : d' + 1 ≤ d) (hcm : cells ≤ cm) (hsm : slots ≤ sm) (hcat : (st.map fun v => v.category).sum ≤ 8) (k : jG E x cells slots (pc + 3) lv (.int r :: st) h') : jG E x cells slots pc lv (.int a0 :: .ref (E.1 + i) :: st) h := jG_callV F (y := yX5_twelfthsOf) (n := 1) (As := [.int a0]) (rest := st) (ci := 5) ⟨(jm 451 (by decide +kernel) (by decide +kernel)), (jm 448 (by decide +kernel) (by decide +kernel)), (jm 450 (by decide +kernel) (by decide +kernel)), (jm 6 (by decide +kernel) (by decide +kernel)), (jm 45 (by decide +kernel) (by decide +kernel))⟩ (by decide +kernel) (by decide) rfl hM hR he rfl rfl hcat dg hcm hsm k
theorem jc_L_57 (F : jF E x RL cc nL d cm sm) {i d' : Nat} {fs : List Value} {a0 : Int32} {r : Int32} (dg : decode cc pc = .ok (.invokevirtual 57, 3)) (hM : jMd (jL x) E yX5_points cX5_points 5 (some .int) d' [.ref (E.1 + i), .int a0] h (some (.int r)) h' 0 0) (he : h[i]? = some (.inr (5, fs))) (hR : d' + 1 ≤ d) (hcm : cells ≤ cm) (hsm : slots ≤ sm) (hcat : (st.map fun v => v.category).sum ≤ 8) (k : jG E x cells slots (pc + 3) lv (.int r :: st) h') : jG E x cells slots pc lv (.int a0 :: .ref (E.1 + i) :: st) h := jG_callV F (y := yX5_points) (n := 1) (As := [.int a0]) (rest := st) (ci := 5) ⟨(jm 457 (by decide +kernel) (by decide +kernel)), (jm 454 (by decide +kernel) (by decide +kernel)), (jm 455 (by decide +kernel) (by decide +kernel)), (jm 456 (by decide +kernel) (by decide +kernel)), (jm 45 (by decide +kernel) (by decide +kernel))⟩ (by decide +kernel) (by decide) rfl hM hR he rfl rfl hcat dg hcm hsm k
theorem jc_X5_158 (F : jF E x RX5 cc nL d cm sm) {i d' : Nat} {fs : List Value} {a0 : Int32} {r : Int32} (dg : decode cc pc = .ok (.invokevirtual 158, 3)) (hM : jMd (jL x) E yX1_isAllIn cX1_isAllIn 3 (some .boolean) d' [.ref (E.1 + i), .int a0] h (some (.int r)) h' 0 0) (he : h[i]? = some (.inr (1, fs))) (hR : d' + 1 ≤ d) (hcm : cells ≤ cm) (hsm : slots ≤ sm) (hcat : (st.map fun v => v.category).sum ≤ 8) (k : jG E x cells slots (pc + 3) lv (.int r :: st) h') : jG E x cells slots pc lv (.int a0 :: .ref (E.1 + i) :: st) h := jG_callV F (y := yX1_isAllIn) (n := 1) (As := [.int a0]) (rest := st) (ci := 1) ⟨(jm 461 (by decide +kernel) (by decide +kernel)), (jm 458 (by decide +kernel) (by decide +kernel)), (jm 459 (by decide +kernel) (by decide +kernel)), (jm 460 (by decide +kernel) (by decide +kernel)), (jm 47 (by decide +kernel) (by decide +kernel))⟩ (by decide +kernel) (by decide) rfl hM hR he rfl rfl hcat dg hcm hsm k
theorem jc_L_61 (F : jF E x RL cc nL d cm sm) {i d' : Nat} {fs : List Value} {a0 : Int32} {a1 : Int32} {r : Int32} (dg : decode cc pc = .ok (.invokevirtual 61, 3)) (hM : jMd (jL x) E yX5_chance cX5_chance 4 (some .int) d' [.ref (E.1 + i), .int a0, .int a1] h (some (.int r)) h' 0 0) (he : h[i]? = some (.inr (5, fs))) (hR : d' + 1 ≤ d) (hcm : cells ≤ cm) (hsm : slots ≤ sm) (hcat : (st.map fun v => v.category).sum ≤ 8) (k : jG E x cells slots (pc + 3) lv (.int r :: st) h') : jG E x cells slots pc lv (.int a1 :: .int a0 :: .ref (E.1 + i) :: st) h := jG_callV F (y := yX5_chance) (n := 2) (As := [.int a0, .int a1]) (rest := st) (ci := 5) ⟨(jm 465 (by decide +kernel) (by decide +kernel)), (jm 462 (by decide +kernel) (by decide +kernel)), (jm 463 (by decide +kernel) (by decide +kernel)), (jm 464 (by decide +kernel) (by decide +kernel)), (jm 45 (by decide +kernel) (by decide +kernel))⟩ (by decide +kernel) (by decide) rfl hM hR he rfl rfl hcat dg hcm hsm k
theorem jc_X5_161 (F : jF E x RX5 cc nL d cm sm) {d' : Nat} {a0 : Nat} {a1 : Int32} {a2 : Int32} {r : Int32} (dg : decode cc pc = .ok (.invokestatic 161, 3)) (hM : jMd (jL x) E yX0_chanceOf cX0_chanceOf 4 (some .int) d' [.ref a0, .int a1, .int a2] h (some (.int r)) h' 0 0) (hR : d' + 1 ≤ d) (hcm : cells ≤ cm) (hsm : slots ≤ sm) (hcat : (st.map fun v => v.category).sum ≤ 8) (k : jG E x cells slots (pc + 3) lv (.int r :: st) h') : jG E x cells slots pc lv (.int a2 :: .int a1 :: .ref a0 :: st) h := jG_callS F (y := yX0_chanceOf) (n := 3) (As := [.ref a0, .int a1, .int a2]) (rest := st) ⟨(jm 468 (by decide +kernel) (by decide +kernel)), (jm 466 (by decide +kernel) (by decide +kernel)), (jm 467 (by decide +kernel) (by decide +kernel)), (jm 48 (by decide +kernel) (by decide +kernel))⟩ (by decide +kernel) (by decide) hM hR rfl rfl hcat dg hcm hsm k
theorem jc_X0_45 (F : jF E x RX0 cc nL d cm sm) {d' : Nat} {a0 : Nat} {a1 : Int32} {r : Int32} (dg : decode cc pc = .ok (.invokestatic 45, 3)) (hM : jMd (jL x) E yX0_wayToCup cX0_wayToCup 2 (some .int) d' [.ref a0, .int a1] h (some (.int r)) h' 0 0) (hR : d' + 1 ≤ d) (hcm : cells ≤ cm) (hsm : slots ≤ sm) (hcat : (st.map fun v => v.category).sum ≤ 8) (k : jG E x cells slots (pc + 3) lv (.int r :: st) h') : jG E x cells slots pc lv (.int a1 :: .ref a0 :: st) h := jG_callS F (y := yX0_wayToCup) (n := 2) (As := [.ref a0, .int a1]) (rest := st) ⟨(jm 471 (by decide +kernel) (by decide +kernel)), (jm 469 (by decide +kernel) (by decide +kernel)), (jm 470 (by decide +kernel) (by decide +kernel)), (jm 48 (by decide +kernel) (by decide +kernel))⟩ (by decide +kernel) (by decide) hM hR rfl rfl hcat dg hcm hsm k
theorem jc_X0_49 (F : jF E x RX0 cc nL d 0 0) {a b : Int32} (dg : decode cc pc = .ok (.invokestatic 49, 3)) (hd : 1 ≤ d) (hcat : (st.map fun v => v.category).sum ≤ 8) (k : jG E x 0 0 (pc + 3) lv (.int (if a < b then b else a) :: st) h) : jG E x 0 0 pc lv (.int b :: .int a :: st) h := jG_max F (jm 473 (by decide +kernel) (by decide +kernel)) (jm 376 (by decide +kernel) (by decide +kernel)) (jm 52 (by decide +kernel) (by decide +kernel)) (jm 377 (by decide +kernel) (by decide +kernel)) hd hcat dg k
theorem jc_L_65 (F : jF E x RL cc nL d cm sm) {i d' : Nat} {fs : List Value} {a0 : Int32} {a1 : Int32} {r : Int32} (dg : decode cc pc = .ok (.invokevirtual 65, 3)) (hM : jMd (jL x) E yX5_best cX5_best 4 (some .int) d' [.ref (E.1 + i), .int a0, .int a1] h (some (.int r)) h' 0 0) (he : h[i]? = some (.inr (5, fs))) (hR : d' + 1 ≤ d) (hcm : cells ≤ cm) (hsm : slots ≤ sm) (hcat : (st.map fun v => v.category).sum ≤ 8) (k : jG E x cells slots (pc + 3) lv (.int r :: st) h') : jG E x cells slots pc lv (.int a1 :: .int a0 :: .ref (E.1 + i) :: st) h := jG_callV F (y := yX5_best) (n := 2) (As := [.int a0, .int a1]) (rest := st) (ci := 5) ⟨(jm 477 (by decide +kernel) (by decide +kernel)), (jm 474 (by decide +kernel) (by decide +kernel)), (jm 475 (by decide +kernel) (by decide +kernel)), (jm 476 (by decide +kernel) (by decide +kernel)), (jm 45 (by decide +kernel) (by decide +kernel))⟩ (by decide +kernel) (by decide) rfl hM hR he rfl rfl hcat dg hcm hsm k
theorem jc_X5_165 (F : jF E x RX5 cc nL d cm sm) {i d' : Nat} {fs : List Value} {a0 : Nat} {a1 : Int32} {r : Int32} (dg : decode cc pc = .ok (.invokevirtual 165, 3)) (hM : jMd (jL x) E yX0_worthOfBest cX0_worthOfBest 5 (some .int) d' [.ref (E.1 + i), .ref a0, .int a1] h (some (.int r)) h' 0 0) (he : h[i]? = some (.inr (0, fs))) (hR : d' + 1 ≤ d) (hcm : cells ≤ cm) (hsm : slots ≤ sm) (hcat : (st.map fun v => v.category).sum ≤ 8) (k : jG E x cells slots (pc + 3) lv (.int r :: st) h') : jG E x cells slots pc lv (.int a1 :: .ref a0 :: .ref (E.1 + i) :: st) h := jG_callV F (y := yX0_worthOfBest) (n := 2) (As := [.ref a0, .int a1]) (rest := st) (ci := 0) ⟨(jm 481 (by decide +kernel) (by decide +kernel)), (jm 478 (by decide +kernel) (by decide +kernel)), (jm 479 (by decide +kernel) (by decide +kernel)), (jm 480 (by decide +kernel) (by decide +kernel)), (jm 48 (by decide +kernel) (by decide +kernel))⟩ (by decide +kernel) (by decide) rfl hM hR he rfl rfl hcat dg hcm hsm k
theorem jc_X0_21 (F : jF E x RX0 cc nL d cm sm) {i d' : Nat} {fs : List Value} {a0 : Int32} {r : Int32} (dg : decode cc pc = .ok (.invokevirtual 21, 3)) (hM : jMd (jL x) E yX1_isFree cX1_isFree 2 (some .boolean) d' [.ref (E.1 + i), .int a0] h (some (.int r)) h' 0 0) (he : h[i]? = some (.inr (1, fs))) (hR : d' + 1 ≤ d) (hcm : cells ≤ cm) (hsm : slots ≤ sm) (hcat : (st.map fun v => v.category).sum ≤ 8) (k : jG E x cells slots (pc + 3) lv (.int r :: st) h') : jG E x cells slots pc lv (.int a0 :: .ref (E.1 + i) :: st) h := jG_callV F (y := yX1_isFree) (n := 1) (As := [.int a0]) (rest := st) (ci := 1) ⟨(jm 342 (by decide +kernel) (by decide +kernel)), (jm 482 (by decide +kernel) (by decide +kernel)), (jm 340 (by decide +kernel) (by decide +kernel)), (jm 341 (by decide +kernel) (by decide +kernel)), (jm 47 (by decide +kernel) (by decide +kernel))⟩ (by decide +kernel) (by decide) rfl hM hR he rfl rfl hcat dg hcm hsm k
theorem jc_X0_27 (F : jF E x RX0 cc nL d cm sm) {i d' : Nat} {fs : List Value} {a0 : Nat} {a1 : Int32}  (dg : decode cc pc = .ok (.invokevirtual 27, 3)) (hM : jMd (jL x) E yX0_weighAims cX0_weighAims 5 none d' [.ref (E.1 + i), .ref a0, .int a1] h none h' 0 0) (he : h[i]? = some (.inr (0, fs))) (hR : d' + 1 ≤ d) (hcm : cells ≤ cm) (hsm : slots ≤ sm) (hcat : (st.map fun v => v.category).sum ≤ 8) (k : jG E x cells slots (pc + 3) lv (st) h') : jG E x cells slots pc lv (.int a1 :: .ref a0 :: .ref (E.1 + i) :: st) h := jG_callV F (y := yX0_weighAims) (n := 2) (As := [.ref a0, .int a1]) (rest := st) (ci := 0) ⟨(jm 486 (by decide +kernel) (by decide +kernel)), (jm 483 (by decide +kernel) (by decide +kernel)), (jm 485 (by decide +kernel) (by decide +kernel)), (jm 7 (by decide +kernel) (by decide +kernel)), (jm 48 (by decide +kernel) (by decide +kernel))⟩ (by decide +kernel) (by decide) rfl hM hR he rfl rfl hcat dg hcm hsm k
theorem jc_X0_31 (F : jF E x RX0 cc nL d cm sm) {i d' : Nat} {fs : List Value} {a0 : Nat} {a1 : Int32} {a2 : Int32}  (dg : decode cc pc = .ok (.invokevirtual 31, 3)) (hM : jMd (jL x) E yX0_weigh cX0_weigh 5 none d' [.ref (E.1 + i), .ref a0, .int a1, .int a2] h none h' 0 0) (he : h[i]? = some (.inr (0, fs))) (hR : d' + 1 ≤ d) (hcm : cells ≤ cm) (hsm : slots ≤ sm) (hcat : (st.map fun v => v.category).sum ≤ 8) (k : jG E x cells slots (pc + 3) lv (st) h') : jG E x cells slots pc lv (.int a2 :: .int a1 :: .ref a0 :: .ref (E.1 + i) :: st) h := jG_callV F (y := yX0_weigh) (n := 3) (As := [.ref a0, .int a1, .int a2]) (rest := st) (ci := 0) ⟨(jm 490 (by decide +kernel) (by decide +kernel)), (jm 487 (by decide +kernel) (by decide +kernel)), (jm 489 (by decide +kernel) (by decide +kernel)), (jm 8 (by decide +kernel) (by decide +kernel)), (jm 48 (by decide +kernel) (by decide +kernel))⟩ (by decide +kernel) (by decide) rfl hM hR he rfl rfl hcat dg hcm hsm k
theorem jc_X0_38 (F : jF E x RX0 cc nL d cm sm) {d' : Nat} {a0 : Nat} {a1 : Int32} {a2 : Int32} {r : Int32} (dg : decode cc pc = .ok (.invokestatic 38, 3)) (hM : jMd (jL x) E yX0_chanceOf cX0_chanceOf 4 (some .int) d' [.ref a0, .int a1, .int a2] h (some (.int r)) h' 0 0) (hR : d' + 1 ≤ d) (hcm : cells ≤ cm) (hsm : slots ≤ sm) (hcat : (st.map fun v => v.category).sum ≤ 8) (k : jG E x cells slots (pc + 3) lv (.int r :: st) h') : jG E x cells slots pc lv (.int a2 :: .int a1 :: .ref a0 :: st) h := jG_callS F (y := yX0_chanceOf) (n := 3) (As := [.ref a0, .int a1, .int a2]) (rest := st) ⟨(jm 468 (by decide +kernel) (by decide +kernel)), (jm 491 (by decide +kernel) (by decide +kernel)), (jm 467 (by decide +kernel) (by decide +kernel)), (jm 48 (by decide +kernel) (by decide +kernel))⟩ (by decide +kernel) (by decide) hM hR rfl rfl hcat dg hcm hsm k
theorem jc_X0_42 (F : jF E x RX0 cc nL d cm sm) {d' : Nat} {a0 : Nat} {a1 : Int32} {a2 : Int32} {r : Int32} (dg : decode cc pc = .ok (.invokestatic 42, 3)) (hM : jMd (jL x) E yX0_gainOf cX0_gainOf 5 (some .int) d' [.ref a0, .int a1, .int a2] h (some (.int r)) h' 0 0) (hR : d' + 1 ≤ d) (hcm : cells ≤ cm) (hsm : slots ≤ sm) (hcat : (st.map fun v => v.category).sum ≤ 8) (k : jG E x cells slots (pc + 3) lv (.int r :: st) h') : jG E x cells slots pc lv (.int a2 :: .int a1 :: .ref a0 :: st) h := jG_callS F (y := yX0_gainOf) (n := 3) (As := [.ref a0, .int a1, .int a2]) (rest := st) ⟨(jm 494 (by decide +kernel) (by decide +kernel)), (jm 492 (by decide +kernel) (by decide +kernel)), (jm 493 (by decide +kernel) (by decide +kernel)), (jm 48 (by decide +kernel) (by decide +kernel))⟩ (by decide +kernel) (by decide) hM hR rfl rfl hcat dg hcm hsm k
theorem jc_X0_66 (F : jF E x RX0 cc nL d cm sm) {i d' : Nat} {fs : List Value} {a0 : Int32} {r : Int32} (dg : decode cc pc = .ok (.invokevirtual 66, 3)) (hM : jMd (jL x) E yX1_isAtBase cX1_isAtBase 2 (some .boolean) d' [.ref (E.1 + i), .int a0] h (some (.int r)) h' 0 0) (he : h[i]? = some (.inr (1, fs))) (hR : d' + 1 ≤ d) (hcm : cells ≤ cm) (hsm : slots ≤ sm) (hcat : (st.map fun v => v.category).sum ≤ 8) (k : jG E x cells slots (pc + 3) lv (.int r :: st) h') : jG E x cells slots pc lv (.int a0 :: .ref (E.1 + i) :: st) h := jG_callV F (y := yX1_isAtBase) (n := 1) (As := [.int a0]) (rest := st) (ci := 1) ⟨(jm 498 (by decide +kernel) (by decide +kernel)), (jm 495 (by decide +kernel) (by decide +kernel)), (jm 496 (by decide +kernel) (by decide +kernel)), (jm 497 (by decide +kernel) (by decide +kernel)), (jm 47 (by decide +kernel) (by decide +kernel))⟩ (by decide +kernel) (by decide) rfl hM hR he rfl rfl hcat dg hcm hsm k
theorem jc_X1_69 (F : jF E x RX1 cc nL d cm sm) {i d' : Nat} {fs : List Value} {a0 : Int32} {r : Int32} (dg : decode cc pc = .ok (.invokevirtual 69, 3)) (hM : jMd (jL x) E yX1_isInCup cX1_isInCup 2 (some .boolean) d' [.ref (E.1 + i), .int a0] h (some (.int r)) h' 0 0) (he : h[i]? = some (.inr (1, fs))) (hR : d' + 1 ≤ d) (hcm : cells ≤ cm) (hsm : slots ≤ sm) (hcat : (st.map fun v => v.category).sum ≤ 8) (k : jG E x cells slots (pc + 3) lv (.int r :: st) h') : jG E x cells slots pc lv (.int a0 :: .ref (E.1 + i) :: st) h := jG_callV F (y := yX1_isInCup) (n := 1) (As := [.int a0]) (rest := st) (ci := 1) ⟨(jm 337 (by decide +kernel) (by decide +kernel)), (jm 499 (by decide +kernel) (by decide +kernel)), (jm 335 (by decide +kernel) (by decide +kernel)), (jm 336 (by decide +kernel) (by decide +kernel)), (jm 47 (by decide +kernel) (by decide +kernel))⟩ (by decide +kernel) (by decide) rfl hM hR he rfl rfl hcat dg hcm hsm k
theorem jc_X0_69 (F : jF E x RX0 cc nL d cm sm) {i d' : Nat} {fs : List Value} {a0 : Int32} {r : Int32} (dg : decode cc pc = .ok (.invokevirtual 69, 3)) (hM : jMd (jL x) E yX1_coveredBy cX1_coveredBy 4 (some .int) d' [.ref (E.1 + i), .int a0] h (some (.int r)) h' 0 0) (he : h[i]? = some (.inr (1, fs))) (hR : d' + 1 ≤ d) (hcm : cells ≤ cm) (hsm : slots ≤ sm) (hcat : (st.map fun v => v.category).sum ≤ 8) (k : jG E x cells slots (pc + 3) lv (.int r :: st) h') : jG E x cells slots pc lv (.int a0 :: .ref (E.1 + i) :: st) h := jG_callV F (y := yX1_coveredBy) (n := 1) (As := [.int a0]) (rest := st) (ci := 1) ⟨(jm 346 (by decide +kernel) (by decide +kernel)), (jm 500 (by decide +kernel) (by decide +kernel)), (jm 344 (by decide +kernel) (by decide +kernel)), (jm 345 (by decide +kernel) (by decide +kernel)), (jm 47 (by decide +kernel) (by decide +kernel))⟩ (by decide +kernel) (by decide) rfl hM hR he rfl rfl hcat dg hcm hsm k
theorem jc_X0_73 (F : jF E x RX0 cc nL d cm sm) {d' : Nat} {a0 : Int32} {r : Int32} (dg : decode cc pc = .ok (.invokestatic 73, 3)) (hM : jMd (jL x) E yJ6_bitCount_0f7a4 cJ6_bitCount_0f7a4 1 (some .int) d' [.int a0] h (some (.int r)) h' 0 0) (hR : d' + 1 ≤ d) (hcm : cells ≤ cm) (hsm : slots ≤ sm) (hcat : (st.map fun v => v.category).sum ≤ 8) (k : jG E x cells slots (pc + 3) lv (.int r :: st) h') : jG E x cells slots pc lv (.int a0 :: st) h := jG_callS F (y := yJ6_bitCount_0f7a4) (n := 1) (As := [.int a0]) (rest := st) ⟨(jm 413 (by decide +kernel) (by decide +kernel)), (jm 501 (by decide +kernel) (by decide +kernel)), (jm 412 (by decide +kernel) (by decide +kernel)), (jm 53 (by decide +kernel) (by decide +kernel))⟩ (by decide +kernel) (by decide) hM hR rfl rfl hcat dg hcm hsm k
theorem jc_X0_35 (F : jF E x RX0 cc nL d cm sm) {i d' : Nat} {fs : List Value} {a0 : Int32} {r : Int32} (dg : decode cc pc = .ok (.invokevirtual 35, 3)) (hM : jMd (jL x) E yX1_doesLie cX1_doesLie 2 (some .boolean) d' [.ref (E.1 + i), .int a0] h (some (.int r)) h' 0 0) (he : h[i]? = some (.inr (1, fs))) (hR : d' + 1 ≤ d) (hcm : cells ≤ cm) (hsm : slots ≤ sm) (hcat : (st.map fun v => v.category).sum ≤ 8) (k : jG E x cells slots (pc + 3) lv (.int r :: st) h') : jG E x cells slots pc lv (.int a0 :: .ref (E.1 + i) :: st) h := jG_callV F (y := yX1_doesLie) (n := 1) (As := [.int a0]) (rest := st) (ci := 1) ⟨(jm 90 (by decide +kernel) (by decide +kernel)), (jm 502 (by decide +kernel) (by decide +kernel)), (jm 88 (by decide +kernel) (by decide +kernel)), (jm 89 (by decide +kernel) (by decide +kernel)), (jm 47 (by decide +kernel) (by decide +kernel))⟩ (by decide +kernel) (by decide) rfl hM hR he rfl rfl hcat dg hcm hsm k
theorem jc_L_69 (F : jF E x RL cc nL d cm sm) {i d' : Nat} {fs : List Value}  {r : Int32} (dg : decode cc pc = .ok (.invokevirtual 69, 3)) (hM : jMd (jL x) E yX5_ahead cX5_ahead 2 (some .int) d' [.ref (E.1 + i)] h (some (.int r)) h' 0 0) (he : h[i]? = some (.inr (5, fs))) (hR : d' + 1 ≤ d) (hcm : cells ≤ cm) (hsm : slots ≤ sm) (hcat : (st.map fun v => v.category).sum ≤ 8) (k : jG E x cells slots (pc + 3) lv (.int r :: st) h') : jG E x cells slots pc lv (.ref (E.1 + i) :: st) h := jG_callV F (y := yX5_ahead) (n := 0) (As := []) (rest := st) (ci := 5) ⟨(jm 506 (by decide +kernel) (by decide +kernel)), (jm 503 (by decide +kernel) (by decide +kernel)), (jm 504 (by decide +kernel) (by decide +kernel)), (jm 505 (by decide +kernel) (by decide +kernel)), (jm 45 (by decide +kernel) (by decide +kernel))⟩ (by decide +kernel) (by decide) rfl hM hR he rfl rfl hcat dg hcm hsm k
theorem jc_X5_175 (F : jF E x RX5 cc nL d cm sm) {i d' : Nat} {fs : List Value}  {r : Int32} (dg : decode cc pc = .ok (.invokevirtual 175, 3)) (hM : jMd (jL x) E yX2_playerBehind cX2_playerBehind 3 (some .int) d' [.ref (E.1 + i)] h (some (.int r)) h' 0 0) (he : h[i]? = some (.inr (2, fs))) (hR : d' + 1 ≤ d) (hcm : cells ≤ cm) (hsm : slots ≤ sm) (hcat : (st.map fun v => v.category).sum ≤ 8) (k : jG E x cells slots (pc + 3) lv (.int r :: st) h') : jG E x cells slots pc lv (.ref (E.1 + i) :: st) h := jG_callV F (y := yX2_playerBehind) (n := 0) (As := []) (rest := st) (ci := 2) ⟨(jm 510 (by decide +kernel) (by decide +kernel)), (jm 507 (by decide +kernel) (by decide +kernel)), (jm 508 (by decide +kernel) (by decide +kernel)), (jm 509 (by decide +kernel) (by decide +kernel)), (jm 46 (by decide +kernel) (by decide +kernel))⟩ (by decide +kernel) (by decide) rfl hM hR he rfl rfl hcat dg hcm hsm k
theorem jc_L_73 (F : jF E x RL cc nL d cm sm) {i d' : Nat} {fs : List Value} {a0 : Int32} {a1 : Int32} {a2 : Int32} {r : Int32} (dg : decode cc pc = .ok (.invokevirtual 73, 3)) (hM : jMd (jL x) E yX5_write cX5_write 4 (some .int) d' [.ref (E.1 + i), .int a0, .int a1, .int a2] h (some (.int r)) h' 0 0) (he : h[i]? = some (.inr (5, fs))) (hR : d' + 1 ≤ d) (hcm : cells ≤ cm) (hsm : slots ≤ sm) (hcat : (st.map fun v => v.category).sum ≤ 8) (k : jG E x cells slots (pc + 3) lv (.int r :: st) h') : jG E x cells slots pc lv (.int a2 :: .int a1 :: .int a0 :: .ref (E.1 + i) :: st) h := jG_callV F (y := yX5_write) (n := 3) (As := [.int a0, .int a1, .int a2]) (rest := st) (ci := 5) ⟨(jm 514 (by decide +kernel) (by decide +kernel)), (jm 511 (by decide +kernel) (by decide +kernel)), (jm 512 (by decide +kernel) (by decide +kernel)), (jm 513 (by decide +kernel) (by decide +kernel)), (jm 45 (by decide +kernel) (by decide +kernel))⟩ (by decide +kernel) (by decide) rfl hM hR he rfl rfl hcat dg hcm hsm k
theorem jc_X5_178 (F : jF E x RX5 cc nL d cm sm) {i d' : Nat} {fs : List Value} {a0 : Int32} {a1 : Int32} {a2 : Int32} {r : Int32} (dg : decode cc pc = .ok (.invokevirtual 178, 3)) (hM : jMd (jL x) E yX3_add cX3_add 4 (some .int) d' [.ref (E.1 + i), .int a0, .int a1, .int a2] h (some (.int r)) h' 0 0) (he : h[i]? = some (.inr (3, fs))) (hR : d' + 1 ≤ d) (hcm : cells ≤ cm) (hsm : slots ≤ sm) (hcat : (st.map fun v => v.category).sum ≤ 8) (k : jG E x cells slots (pc + 3) lv (.int r :: st) h') : jG E x cells slots pc lv (.int a2 :: .int a1 :: .int a0 :: .ref (E.1 + i) :: st) h := jG_callV F (y := yX3_add) (n := 3) (As := [.int a0, .int a1, .int a2]) (rest := st) (ci := 3) ⟨(jm 518 (by decide +kernel) (by decide +kernel)), (jm 515 (by decide +kernel) (by decide +kernel)), (jm 516 (by decide +kernel) (by decide +kernel)), (jm 517 (by decide +kernel) (by decide +kernel)), (jm 49 (by decide +kernel) (by decide +kernel))⟩ (by decide +kernel) (by decide) rfl hM hR he rfl rfl hcat dg hcm hsm k
theorem jc_L_77 (F : jF E x RL cc nL d cm sm) {i d' : Nat} {fs : List Value}  {r : Int32} (dg : decode cc pc = .ok (.invokevirtual 77, 3)) (hM : jMd (jL x) E yX5_wipe cX5_wipe 1 (some .int) d' [.ref (E.1 + i)] h (some (.int r)) h' 0 0) (he : h[i]? = some (.inr (5, fs))) (hR : d' + 1 ≤ d) (hcm : cells ≤ cm) (hsm : slots ≤ sm) (hcat : (st.map fun v => v.category).sum ≤ 8) (k : jG E x cells slots (pc + 3) lv (.int r :: st) h') : jG E x cells slots pc lv (.ref (E.1 + i) :: st) h := jG_callV F (y := yX5_wipe) (n := 0) (As := []) (rest := st) (ci := 5) ⟨(jm 522 (by decide +kernel) (by decide +kernel)), (jm 519 (by decide +kernel) (by decide +kernel)), (jm 520 (by decide +kernel) (by decide +kernel)), (jm 521 (by decide +kernel) (by decide +kernel)), (jm 45 (by decide +kernel) (by decide +kernel))⟩ (by decide +kernel) (by decide) rfl hM hR he rfl rfl hcat dg hcm hsm k
theorem jc_X5_182 (F : jF E x RX5 cc nL d cm sm) {i d' : Nat} {fs : List Value}  {r : Int32} (dg : decode cc pc = .ok (.invokevirtual 182, 3)) (hM : jMd (jL x) E yX3_clear cX3_clear 2 (some .int) d' [.ref (E.1 + i)] h (some (.int r)) h' 0 0) (he : h[i]? = some (.inr (3, fs))) (hR : d' + 1 ≤ d) (hcm : cells ≤ cm) (hsm : slots ≤ sm) (hcat : (st.map fun v => v.category).sum ≤ 8) (k : jG E x cells slots (pc + 3) lv (.int r :: st) h') : jG E x cells slots pc lv (.ref (E.1 + i) :: st) h := jG_callV F (y := yX3_clear) (n := 0) (As := []) (rest := st) (ci := 3) ⟨(jm 526 (by decide +kernel) (by decide +kernel)), (jm 523 (by decide +kernel) (by decide +kernel)), (jm 524 (by decide +kernel) (by decide +kernel)), (jm 525 (by decide +kernel) (by decide +kernel)), (jm 49 (by decide +kernel) (by decide +kernel))⟩ (by decide +kernel) (by decide) rfl hM hR he rfl rfl hcat dg hcm hsm k
theorem jc_L_81 (F : jF E x RL cc nL d cm sm) {i d' : Nat} {fs : List Value}  {r : Int32} (dg : decode cc pc = .ok (.invokevirtual 81, 3)) (hM : jMd (jL x) E yX5_wrong cX5_wrong 1 (some .int) d' [.ref (E.1 + i)] h (some (.int r)) h' 0 0) (he : h[i]? = some (.inr (5, fs))) (hR : d' + 1 ≤ d) (hcm : cells ≤ cm) (hsm : slots ≤ sm) (hcat : (st.map fun v => v.category).sum ≤ 8) (k : jG E x cells slots (pc + 3) lv (.int r :: st) h') : jG E x cells slots pc lv (.ref (E.1 + i) :: st) h := jG_callV F (y := yX5_wrong) (n := 0) (As := []) (rest := st) (ci := 5) ⟨(jm 530 (by decide +kernel) (by decide +kernel)), (jm 527 (by decide +kernel) (by decide +kernel)), (jm 528 (by decide +kernel) (by decide +kernel)), (jm 529 (by decide +kernel) (by decide +kernel)), (jm 45 (by decide +kernel) (by decide +kernel))⟩ (by decide +kernel) (by decide) rfl hM hR he rfl rfl hcat dg hcm hsm k
theorem jc_X5_188 (F : jF E x RX5 cc nL d cm sm) {i d' : Nat} {fs : List Value} {a0 : Int32} {r : Int32} (dg : decode cc pc = .ok (.invokevirtual 188, 3)) (hM : jMd (jL x) E yX3_firstWrong cX3_firstWrong 2 (some .int) d' [.ref (E.1 + i), .int a0] h (some (.int r)) h' 0 0) (he : h[i]? = some (.inr (3, fs))) (hR : d' + 1 ≤ d) (hcm : cells ≤ cm) (hsm : slots ≤ sm) (hcat : (st.map fun v => v.category).sum ≤ 8) (k : jG E x cells slots (pc + 3) lv (.int r :: st) h') : jG E x cells slots pc lv (.int a0 :: .ref (E.1 + i) :: st) h := jG_callV F (y := yX3_firstWrong) (n := 1) (As := [.int a0]) (rest := st) (ci := 3) ⟨(jm 534 (by decide +kernel) (by decide +kernel)), (jm 531 (by decide +kernel) (by decide +kernel)), (jm 532 (by decide +kernel) (by decide +kernel)), (jm 533 (by decide +kernel) (by decide +kernel)), (jm 49 (by decide +kernel) (by decide +kernel))⟩ (by decide +kernel) (by decide) rfl hM hR he rfl rfl hcat dg hcm hsm k
theorem jc_X3_44 (F : jF E x RX3 cc nL d cm sm) {d' : Nat} {a0 : Nat} {a1 : Int32}  (dg : decode cc pc = .ok (.invokestatic 44, 3)) (hM : jMd (jL x) E yX3_startOver cX3_startOver 2 none d' [.ref a0, .int a1] h none h' 0 0) (hR : d' + 1 ≤ d) (hcm : cells ≤ cm) (hsm : slots ≤ sm) (hcat : (st.map fun v => v.category).sum ≤ 8) (k : jG E x cells slots (pc + 3) lv (st) h') : jG E x cells slots pc lv (.int a1 :: .ref a0 :: st) h := jG_callS F (y := yX3_startOver) (n := 2) (As := [.ref a0, .int a1]) (rest := st) ⟨(jm 537 (by decide +kernel) (by decide +kernel)), (jm 535 (by decide +kernel) (by decide +kernel)), (jm 536 (by decide +kernel) (by decide +kernel)), (jm 49 (by decide +kernel) (by decide +kernel))⟩ (by decide +kernel) (by decide) hM hR rfl rfl hcat dg hcm hsm k
theorem jc_X3_75 (F : jF E x RX3 cc nL d cm sm) {i d' : Nat} {fs : List Value}   (dg : decode cc pc = .ok (.invokevirtual 75, 3)) (hM : jMd (jL x) E yX2_beginAnew cX2_beginAnew 1 none d' [.ref (E.1 + i)] h none h' 0 0) (he : h[i]? = some (.inr (2, fs))) (hR : d' + 1 ≤ d) (hcm : cells ≤ cm) (hsm : slots ≤ sm) (hcat : (st.map fun v => v.category).sum ≤ 8) (k : jG E x cells slots (pc + 3) lv (st) h') : jG E x cells slots pc lv (.ref (E.1 + i) :: st) h := jG_callV F (y := yX2_beginAnew) (n := 0) (As := []) (rest := st) (ci := 2) ⟨(jm 266 (by decide +kernel) (by decide +kernel)), (jm 538 (by decide +kernel) (by decide +kernel)), (jm 264 (by decide +kernel) (by decide +kernel)), (jm 265 (by decide +kernel) (by decide +kernel)), (jm 46 (by decide +kernel) (by decide +kernel))⟩ (by decide +kernel) (by decide) rfl hM hR he rfl rfl hcat dg hcm hsm k
theorem jc_X3_48 (F : jF E x RX3 cc nL d cm sm) {i d' : Nat} {fs : List Value} {a0 : Nat} {a1 : Int32} {a2 : Int32} {r : Int32} (dg : decode cc pc = .ok (.invokevirtual 48, 3)) (hM : jMd (jL x) E yX3_firstWrongIn cX3_firstWrongIn 5 (some .int) d' [.ref (E.1 + i), .ref a0, .int a1, .int a2] h (some (.int r)) h' 0 0) (he : h[i]? = some (.inr (3, fs))) (hR : d' + 1 ≤ d) (hcm : cells ≤ cm) (hsm : slots ≤ sm) (hcat : (st.map fun v => v.category).sum ≤ 8) (k : jG E x cells slots (pc + 3) lv (.int r :: st) h') : jG E x cells slots pc lv (.int a2 :: .int a1 :: .ref a0 :: .ref (E.1 + i) :: st) h := jG_callV F (y := yX3_firstWrongIn) (n := 3) (As := [.ref a0, .int a1, .int a2]) (rest := st) (ci := 3) ⟨(jm 542 (by decide +kernel) (by decide +kernel)), (jm 539 (by decide +kernel) (by decide +kernel)), (jm 541 (by decide +kernel) (by decide +kernel)), (jm 9 (by decide +kernel) (by decide +kernel)), (jm 49 (by decide +kernel) (by decide +kernel))⟩ (by decide +kernel) (by decide) rfl hM hR he rfl rfl hcat dg hcm hsm k
theorem jc_X3_72 (F : jF E x RX3 cc nL d cm sm) {i d' : Nat} {fs : List Value} {a0 : Int32} {a1 : Int32} {a2 : Int32} {r : Int32} (dg : decode cc pc = .ok (.invokevirtual 72, 3)) (hM : jMd (jL x) E yX2_follow cX2_follow 4 (some .boolean) d' [.ref (E.1 + i), .int a0, .int a1, .int a2] h (some (.int r)) h' 0 0) (he : h[i]? = some (.inr (2, fs))) (hR : d' + 1 ≤ d) (hcm : cells ≤ cm) (hsm : slots ≤ sm) (hcat : (st.map fun v => v.category).sum ≤ 8) (k : jG E x cells slots (pc + 3) lv (.int r :: st) h') : jG E x cells slots pc lv (.int a2 :: .int a1 :: .int a0 :: .ref (E.1 + i) :: st) h := jG_callV F (y := yX2_follow) (n := 3) (As := [.int a0, .int a1, .int a2]) (rest := st) (ci := 2) ⟨(jm 546 (by decide +kernel) (by decide +kernel)), (jm 543 (by decide +kernel) (by decide +kernel)), (jm 544 (by decide +kernel) (by decide +kernel)), (jm 545 (by decide +kernel) (by decide +kernel)), (jm 46 (by decide +kernel) (by decide +kernel))⟩ (by decide +kernel) (by decide) rfl hM hR he rfl rfl hcat dg hcm hsm k
theorem jc_X2_104 (F : jF E x RX2 cc nL d cm sm) {i d' : Nat} {fs : List Value} {a0 : Int32} {r : Int32} (dg : decode cc pc = .ok (.invokevirtual 104, 3)) (hM : jMd (jL x) E yX2_mayPlay cX2_mayPlay 2 (some .boolean) d' [.ref (E.1 + i), .int a0] h (some (.int r)) h' 0 0) (he : h[i]? = some (.inr (2, fs))) (hR : d' + 1 ≤ d) (hcm : cells ≤ cm) (hsm : slots ≤ sm) (hcat : (st.map fun v => v.category).sum ≤ 8) (k : jG E x cells slots (pc + 3) lv (.int r :: st) h') : jG E x cells slots pc lv (.int a0 :: .ref (E.1 + i) :: st) h := jG_callV F (y := yX2_mayPlay) (n := 1) (As := [.int a0]) (rest := st) (ci := 2) ⟨(jm 362 (by decide +kernel) (by decide +kernel)), (jm 547 (by decide +kernel) (by decide +kernel)), (jm 360 (by decide +kernel) (by decide +kernel)), (jm 361 (by decide +kernel) (by decide +kernel)), (jm 46 (by decide +kernel) (by decide +kernel))⟩ (by decide +kernel) (by decide) rfl hM hR he rfl rfl hcat dg hcm hsm k
theorem jc_L_85 (F : jF E x RL cc nL d cm sm) {i d' : Nat} {fs : List Value} {a0 : Int32} {r : Int32} (dg : decode cc pc = .ok (.invokevirtual 85, 3)) (hM : jMd (jL x) E yX5_canBe cX5_canBe 3 (some .int) d' [.ref (E.1 + i), .int a0] h (some (.int r)) h' 0 0) (he : h[i]? = some (.inr (5, fs))) (hR : d' + 1 ≤ d) (hcm : cells ≤ cm) (hsm : slots ≤ sm) (hcat : (st.map fun v => v.category).sum ≤ 8) (k : jG E x cells slots (pc + 3) lv (.int r :: st) h') : jG E x cells slots pc lv (.int a0 :: .ref (E.1 + i) :: st) h := jG_callV F (y := yX5_canBe) (n := 1) (As := [.int a0]) (rest := st) (ci := 5) ⟨(jm 551 (by decide +kernel) (by decide +kernel)), (jm 548 (by decide +kernel) (by decide +kernel)), (jm 549 (by decide +kernel) (by decide +kernel)), (jm 550 (by decide +kernel) (by decide +kernel)), (jm 45 (by decide +kernel) (by decide +kernel))⟩ (by decide +kernel) (by decide) rfl hM hR he rfl rfl hcat dg hcm hsm k
theorem jc_X5_191 (F : jF E x RX5 cc nL d cm sm) {i d' : Nat} {fs : List Value}  {r : Int32} (dg : decode cc pc = .ok (.invokevirtual 191, 3)) (hM : jMd (jL x) E yX3_onlyGap cX3_onlyGap 3 (some .int) d' [.ref (E.1 + i)] h (some (.int r)) h' 0 0) (he : h[i]? = some (.inr (3, fs))) (hR : d' + 1 ≤ d) (hcm : cells ≤ cm) (hsm : slots ≤ sm) (hcat : (st.map fun v => v.category).sum ≤ 8) (k : jG E x cells slots (pc + 3) lv (.int r :: st) h') : jG E x cells slots pc lv (.ref (E.1 + i) :: st) h := jG_callV F (y := yX3_onlyGap) (n := 0) (As := []) (rest := st) (ci := 3) ⟨(jm 555 (by decide +kernel) (by decide +kernel)), (jm 552 (by decide +kernel) (by decide +kernel)), (jm 553 (by decide +kernel) (by decide +kernel)), (jm 554 (by decide +kernel) (by decide +kernel)), (jm 49 (by decide +kernel) (by decide +kernel))⟩ (by decide +kernel) (by decide) rfl hM hR he rfl rfl hcat dg hcm hsm k
theorem jc_X5_194 (F : jF E x RX5 cc nL d cm sm) {i d' : Nat} {fs : List Value} {a0 : Int32} {a1 : Int32}  (dg : decode cc pc = .ok (.invokevirtual 194, 3)) (hM : jMd (jL x) E yX3_findPlaces cX3_findPlaces 6 none d' [.ref (E.1 + i), .int a0, .int a1] h none h' 0 0) (he : h[i]? = some (.inr (3, fs))) (hR : d' + 1 ≤ d) (hcm : cells ≤ cm) (hsm : slots ≤ sm) (hcat : (st.map fun v => v.category).sum ≤ 8) (k : jG E x cells slots (pc + 3) lv (st) h') : jG E x cells slots pc lv (.int a1 :: .int a0 :: .ref (E.1 + i) :: st) h := jG_callV F (y := yX3_findPlaces) (n := 2) (As := [.int a0, .int a1]) (rest := st) (ci := 3) ⟨(jm 559 (by decide +kernel) (by decide +kernel)), (jm 556 (by decide +kernel) (by decide +kernel)), (jm 557 (by decide +kernel) (by decide +kernel)), (jm 558 (by decide +kernel) (by decide +kernel)), (jm 49 (by decide +kernel) (by decide +kernel))⟩ (by decide +kernel) (by decide) rfl hM hR he rfl rfl hcat dg hcm hsm k
theorem jc_X3_52 (F : jF E x RX3 cc nL d cm sm) {i d' : Nat} {fs : List Value} {a0 : Int32} {a1 : Int32} {a2 : Int32} {r : Int32} (dg : decode cc pc = .ok (.invokevirtual 52, 3)) (hM : jMd (jL x) E yX3_canComeTo cX3_canComeTo 4 (some .boolean) d' [.ref (E.1 + i), .int a0, .int a1, .int a2] h (some (.int r)) h' 0 0) (he : h[i]? = some (.inr (3, fs))) (hR : d' + 1 ≤ d) (hcm : cells ≤ cm) (hsm : slots ≤ sm) (hcat : (st.map fun v => v.category).sum ≤ 8) (k : jG E x cells slots (pc + 3) lv (.int r :: st) h') : jG E x cells slots pc lv (.int a2 :: .int a1 :: .int a0 :: .ref (E.1 + i) :: st) h := jG_callV F (y := yX3_canComeTo) (n := 3) (As := [.int a0, .int a1, .int a2]) (rest := st) (ci := 3) ⟨(jm 563 (by decide +kernel) (by decide +kernel)), (jm 560 (by decide +kernel) (by decide +kernel)), (jm 562 (by decide +kernel) (by decide +kernel)), (jm 10 (by decide +kernel) (by decide +kernel)), (jm 49 (by decide +kernel) (by decide +kernel))⟩ (by decide +kernel) (by decide) rfl hM hR he rfl rfl hcat dg hcm hsm k
theorem jc_X3_68 (F : jF E x RX3 cc nL d cm sm) {i d' : Nat} {fs : List Value} {a0 : Nat}  (dg : decode cc pc = .ok (.invokevirtual 68, 3)) (hM : jMd (jL x) E yX2_copyFrom cX2_copyFrom 2 none d' [.ref (E.1 + i), .ref a0] h none h' 0 0) (he : h[i]? = some (.inr (2, fs))) (hR : d' + 1 ≤ d) (hcm : cells ≤ cm) (hsm : slots ≤ sm) (hcat : (st.map fun v => v.category).sum ≤ 8) (k : jG E x cells slots (pc + 3) lv (st) h') : jG E x cells slots pc lv (.ref a0 :: .ref (E.1 + i) :: st) h := jG_callV F (y := yX2_copyFrom) (n := 1) (As := [.ref a0]) (rest := st) (ci := 2) ⟨(jm 567 (by decide +kernel) (by decide +kernel)), (jm 564 (by decide +kernel) (by decide +kernel)), (jm 565 (by decide +kernel) (by decide +kernel)), (jm 566 (by decide +kernel) (by decide +kernel)), (jm 46 (by decide +kernel) (by decide +kernel))⟩ (by decide +kernel) (by decide) rfl hM hR he rfl rfl hcat dg hcm hsm k
theorem jc_X2_44 (F : jF E x RX2 cc nL d cm sm) {i d' : Nat} {fs : List Value} {a0 : Nat}  (dg : decode cc pc = .ok (.invokevirtual 44, 3)) (hM : jMd (jL x) E yX1_copyFrom cX1_copyFrom 2 none d' [.ref (E.1 + i), .ref a0] h none h' 0 0) (he : h[i]? = some (.inr (1, fs))) (hR : d' + 1 ≤ d) (hcm : cells ≤ cm) (hsm : slots ≤ sm) (hcat : (st.map fun v => v.category).sum ≤ 8) (k : jG E x cells slots (pc + 3) lv (st) h') : jG E x cells slots pc lv (.ref a0 :: .ref (E.1 + i) :: st) h := jG_callV F (y := yX1_copyFrom) (n := 1) (As := [.ref a0]) (rest := st) (ci := 1) ⟨(jm 571 (by decide +kernel) (by decide +kernel)), (jm 568 (by decide +kernel) (by decide +kernel)), (jm 569 (by decide +kernel) (by decide +kernel)), (jm 570 (by decide +kernel) (by decide +kernel)), (jm 47 (by decide +kernel) (by decide +kernel))⟩ (by decide +kernel) (by decide) rfl hM hR he rfl rfl hcat dg hcm hsm k
theorem jc_X3_56 (F : jF E x RX3 cc nL d cm sm) {i d' : Nat} {fs : List Value} {a0 : Int32} {a1 : Int32} {r : Int32} (dg : decode cc pc = .ok (.invokevirtual 56, 3)) (hM : jMd (jL x) E yX3_isNearWritten cX3_isNearWritten 4 (some .boolean) d' [.ref (E.1 + i), .int a0, .int a1] h (some (.int r)) h' 0 0) (he : h[i]? = some (.inr (3, fs))) (hR : d' + 1 ≤ d) (hcm : cells ≤ cm) (hsm : slots ≤ sm) (hcat : (st.map fun v => v.category).sum ≤ 8) (k : jG E x cells slots (pc + 3) lv (.int r :: st) h') : jG E x cells slots pc lv (.int a1 :: .int a0 :: .ref (E.1 + i) :: st) h := jG_callV F (y := yX3_isNearWritten) (n := 2) (As := [.int a0, .int a1]) (rest := st) (ci := 3) ⟨(jm 578 (by decide +kernel) (by decide +kernel)), (jm 575 (by decide +kernel) (by decide +kernel)), (jm 577 (by decide +kernel) (by decide +kernel)), (jm 11 (by decide +kernel) (by decide +kernel)), (jm 49 (by decide +kernel) (by decide +kernel))⟩ (by decide +kernel) (by decide) rfl hM hR he rfl rfl hcat dg hcm hsm k
theorem jc_X3_60 (F : jF E x RX3 cc nL d cm sm) {i d' : Nat} {fs : List Value} {a0 : Int32} {a1 : Int32}  (dg : decode cc pc = .ok (.invokevirtual 60, 3)) (hM : jMd (jL x) E yX3_countPlace cX3_countPlace 3 none d' [.ref (E.1 + i), .int a0, .int a1] h none h' 0 0) (he : h[i]? = some (.inr (3, fs))) (hR : d' + 1 ≤ d) (hcm : cells ≤ cm) (hsm : slots ≤ sm) (hcat : (st.map fun v => v.category).sum ≤ 8) (k : jG E x cells slots (pc + 3) lv (st) h') : jG E x cells slots pc lv (.int a1 :: .int a0 :: .ref (E.1 + i) :: st) h := jG_callV F (y := yX3_countPlace) (n := 2) (As := [.int a0, .int a1]) (rest := st) (ci := 3) ⟨(jm 583 (by decide +kernel) (by decide +kernel)), (jm 580 (by decide +kernel) (by decide +kernel)), (jm 582 (by decide +kernel) (by decide +kernel)), (jm 12 (by decide +kernel) (by decide +kernel)), (jm 49 (by decide +kernel) (by decide +kernel))⟩ (by decide +kernel) (by decide) rfl hM hR he rfl rfl hcat dg hcm hsm k
theorem jc_L_89 (F : jF E x RL cc nL d cm sm) {i d' : Nat} {fs : List Value} {a0 : Int32} {a1 : Int32} {a2 : Int32} {a3 : Int32} {a4 : Int32} {a5 : Int32} {a6 : Int32} {r : Int32} (dg : decode cc pc = .ok (.invokevirtual 89, 3)) (hM : jMd (jL x) E yX5_seen cX5_seen 9 (some .int) d' [.ref (E.1 + i), .int a0, .int a1, .int a2, .int a3, .int a4, .int a5, .int a6] h (some (.int r)) h' 0 0) (he : h[i]? = some (.inr (5, fs))) (hR : d' + 1 ≤ d) (hcm : cells ≤ cm) (hsm : slots ≤ sm) (hcat : (st.map fun v => v.category).sum ≤ 8) (k : jG E x cells slots (pc + 3) lv (.int r :: st) h') : jG E x cells slots pc lv (.int a6 :: .int a5 :: .int a4 :: .int a3 :: .int a2 :: .int a1 :: .int a0 :: .ref (E.1 + i) :: st) h := jG_callV F (y := yX5_seen) (n := 7) (As := [.int a0, .int a1, .int a2, .int a3, .int a4, .int a5, .int a6]) (rest := st) (ci := 5) ⟨(jm 587 (by decide +kernel) (by decide +kernel)), (jm 584 (by decide +kernel) (by decide +kernel)), (jm 585 (by decide +kernel) (by decide +kernel)), (jm 586 (by decide +kernel) (by decide +kernel)), (jm 45 (by decide +kernel) (by decide +kernel))⟩ (by decide +kernel) (by decide) rfl hM hR he rfl rfl hcat dg hcm hsm k
theorem jc_X5_209 (F : jF E x RX5 cc nL d cm sm) {d' : Nat} {a0 : Int32} {a1 : Int32} {a2 : Int32} {a3 : Int32} {r : Int32} (dg : decode cc pc = .ok (.invokestatic 209, 3)) (hM : jMd (jL x) E yX5_wayBetween cX5_wayBetween 4 (some .int) d' [.int a0, .int a1, .int a2, .int a3] h (some (.int r)) h' 0 0) (hR : d' + 1 ≤ d) (hcm : cells ≤ cm) (hsm : slots ≤ sm) (hcat : (st.map fun v => v.category).sum ≤ 8) (k : jG E x cells slots (pc + 3) lv (.int r :: st) h') : jG E x cells slots pc lv (.int a3 :: .int a2 :: .int a1 :: .int a0 :: st) h := jG_callS F (y := yX5_wayBetween) (n := 4) (As := [.int a0, .int a1, .int a2, .int a3]) (rest := st) ⟨(jm 371 (by decide +kernel) (by decide +kernel)), (jm 588 (by decide +kernel) (by decide +kernel)), (jm 370 (by decide +kernel) (by decide +kernel)), (jm 45 (by decide +kernel) (by decide +kernel))⟩ (by decide +kernel) (by decide) hM hR rfl rfl hcat dg hcm hsm k
theorem jc_X5_213 (F : jF E x RX5 cc nL d cm sm) {i d' : Nat} {fs : List Value} {a0 : Int32} {a1 : Int32} {a2 : Int32} {r : Int32} (dg : decode cc pc = .ok (.invokevirtual 213, 3)) (hM : jMd (jL x) E yX4_add cX4_add 5 (some .int) d' [.ref (E.1 + i), .int a0, .int a1, .int a2] h (some (.int r)) h' 0 0) (he : h[i]? = some (.inr (4, fs))) (hR : d' + 1 ≤ d) (hcm : cells ≤ cm) (hsm : slots ≤ sm) (hcat : (st.map fun v => v.category).sum ≤ 8) (k : jG E x cells slots (pc + 3) lv (.int r :: st) h') : jG E x cells slots pc lv (.int a2 :: .int a1 :: .int a0 :: .ref (E.1 + i) :: st) h := jG_callV F (y := yX4_add) (n := 3) (As := [.int a0, .int a1, .int a2]) (rest := st) (ci := 4) ⟨(jm 592 (by decide +kernel) (by decide +kernel)), (jm 589 (by decide +kernel) (by decide +kernel)), (jm 590 (by decide +kernel) (by decide +kernel)), (jm 591 (by decide +kernel) (by decide +kernel)), (jm 50 (by decide +kernel) (by decide +kernel))⟩ (by decide +kernel) (by decide) rfl hM hR he rfl rfl hcat dg hcm hsm k
theorem jc_X4_21 (F : jF E x RX4 cc nL d 0 0) {a b : Int32} (dg : decode cc pc = .ok (.invokestatic 21, 3)) (hd : 1 ≤ d) (hcat : (st.map fun v => v.category).sum ≤ 8) (k : jG E x 0 0 (pc + 3) lv (.int (if b < a then b else a) :: st) h) : jG E x 0 0 pc lv (.int b :: .int a :: st) h := jG_min F (jm 593 (by decide +kernel) (by decide +kernel)) (jm 396 (by decide +kernel) (by decide +kernel)) (jm 52 (by decide +kernel) (by decide +kernel)) (jm 397 (by decide +kernel) (by decide +kernel)) hd hcat dg k
theorem jc_L_94 (F : jF E x RL cc nL d cm sm) {i d' : Nat} {fs : List Value} {a0 : Int32} {a1 : Int32} {a2 : Int32} {r : Int32} (dg : decode cc pc = .ok (.invokevirtual 94, 3)) (hM : jMd (jL x) E yX5_scatter cX5_scatter 4 (some .int) d' [.ref (E.1 + i), .int a0, .int a1, .int a2] h (some (.int r)) h' 0 0) (he : h[i]? = some (.inr (5, fs))) (hR : d' + 1 ≤ d) (hcm : cells ≤ cm) (hsm : slots ≤ sm) (hcat : (st.map fun v => v.category).sum ≤ 8) (k : jG E x cells slots (pc + 3) lv (.int r :: st) h') : jG E x cells slots pc lv (.int a2 :: .int a1 :: .int a0 :: .ref (E.1 + i) :: st) h := jG_callV F (y := yX5_scatter) (n := 3) (As := [.int a0, .int a1, .int a2]) (rest := st) (ci := 5) ⟨(jm 597 (by decide +kernel) (by decide +kernel)), (jm 594 (by decide +kernel) (by decide +kernel)), (jm 595 (by decide +kernel) (by decide +kernel)), (jm 596 (by decide +kernel) (by decide +kernel)), (jm 45 (by decide +kernel) (by decide +kernel))⟩ (by decide +kernel) (by decide) rfl hM hR he rfl rfl hcat dg hcm hsm k
theorem jc_X5_214 (F : jF E x RX5 cc nL d cm sm) {i d' : Nat} {fs : List Value} {a0 : Int32} {a1 : Int32} {a2 : Int32} {r : Int32} (dg : decode cc pc = .ok (.invokevirtual 214, 3)) (hM : jMd (jL x) E yX4_tell cX4_tell 7 (some .int) d' [.ref (E.1 + i), .int a0, .int a1, .int a2] h (some (.int r)) h' 0 0) (he : h[i]? = some (.inr (4, fs))) (hR : d' + 1 ≤ d) (hcm : cells ≤ cm) (hsm : slots ≤ sm) (hcat : (st.map fun v => v.category).sum ≤ 8) (k : jG E x cells slots (pc + 3) lv (.int r :: st) h') : jG E x cells slots pc lv (.int a2 :: .int a1 :: .int a0 :: .ref (E.1 + i) :: st) h := jG_callV F (y := yX4_tell) (n := 3) (As := [.int a0, .int a1, .int a2]) (rest := st) (ci := 4) ⟨(jm 601 (by decide +kernel) (by decide +kernel)), (jm 598 (by decide +kernel) (by decide +kernel)), (jm 599 (by decide +kernel) (by decide +kernel)), (jm 600 (by decide +kernel) (by decide +kernel)), (jm 50 (by decide +kernel) (by decide +kernel))⟩ (by decide +kernel) (by decide) rfl hM hR he rfl rfl hcat dg hcm hsm k
theorem jc_X4_27 (F : jF E x RX4 cc nL d cm sm) {d' : Nat} {a0 : Int32} {a1 : Int32} {r : Int32} (dg : decode cc pc = .ok (.invokestatic 27, 3)) (hM : jMd (jL x) E yX4_commonDivisor cX4_commonDivisor 6 (some .int) d' [.int a0, .int a1] h (some (.int r)) h' 0 0) (hR : d' + 1 ≤ d) (hcm : cells ≤ cm) (hsm : slots ≤ sm) (hcat : (st.map fun v => v.category).sum ≤ 8) (k : jG E x cells slots (pc + 3) lv (.int r :: st) h') : jG E x cells slots pc lv (.int a1 :: .int a0 :: st) h := jG_callS F (y := yX4_commonDivisor) (n := 2) (As := [.int a0, .int a1]) (rest := st) ⟨(jm 604 (by decide +kernel) (by decide +kernel)), (jm 602 (by decide +kernel) (by decide +kernel)), (jm 603 (by decide +kernel) (by decide +kernel)), (jm 50 (by decide +kernel) (by decide +kernel))⟩ (by decide +kernel) (by decide) hM hR rfl rfl hcat dg hcm hsm k
theorem jc_L_98 (F : jF E x RL cc nL d cm sm) {i d' : Nat} {fs : List Value}  {r : Int32} (dg : decode cc pc = .ok (.invokevirtual 98, 3)) (hM : jMd (jL x) E yX5_keep cX5_keep 1 (some .int) d' [.ref (E.1 + i)] h (some (.int r)) h' 0 0) (he : h[i]? = some (.inr (5, fs))) (hR : d' + 1 ≤ d) (hcm : cells ≤ cm) (hsm : slots ≤ sm) (hcat : (st.map fun v => v.category).sum ≤ 8) (k : jG E x cells slots (pc + 3) lv (.int r :: st) h') : jG E x cells slots pc lv (.ref (E.1 + i) :: st) h := jG_callV F (y := yX5_keep) (n := 0) (As := []) (rest := st) (ci := 5) ⟨(jm 608 (by decide +kernel) (by decide +kernel)), (jm 605 (by decide +kernel) (by decide +kernel)), (jm 606 (by decide +kernel) (by decide +kernel)), (jm 607 (by decide +kernel) (by decide +kernel)), (jm 45 (by decide +kernel) (by decide +kernel))⟩ (by decide +kernel) (by decide) rfl hM hR he rfl rfl hcat dg hcm hsm k
theorem jc_X5_217 (F : jF E x RX5 cc nL d cm sm) {i d' : Nat} {fs : List Value} {a0 : Nat}  (dg : decode cc pc = .ok (.invokevirtual 217, 3)) (hM : jMd (jL x) E yX2_copyFrom cX2_copyFrom 2 none d' [.ref (E.1 + i), .ref a0] h none h' 0 0) (he : h[i]? = some (.inr (2, fs))) (hR : d' + 1 ≤ d) (hcm : cells ≤ cm) (hsm : slots ≤ sm) (hcat : (st.map fun v => v.category).sum ≤ 8) (k : jG E x cells slots (pc + 3) lv (st) h') : jG E x cells slots pc lv (.ref a0 :: .ref (E.1 + i) :: st) h := jG_callV F (y := yX2_copyFrom) (n := 1) (As := [.ref a0]) (rest := st) (ci := 2) ⟨(jm 567 (by decide +kernel) (by decide +kernel)), (jm 609 (by decide +kernel) (by decide +kernel)), (jm 565 (by decide +kernel) (by decide +kernel)), (jm 566 (by decide +kernel) (by decide +kernel)), (jm 46 (by decide +kernel) (by decide +kernel))⟩ (by decide +kernel) (by decide) rfl hM hR he rfl rfl hcat dg hcm hsm k
theorem jc_L_102 (F : jF E x RL cc nL d cm sm) {i d' : Nat} {fs : List Value}  {r : Int32} (dg : decode cc pc = .ok (.invokevirtual 102, 3)) (hM : jMd (jL x) E yX5_back cX5_back 1 (some .int) d' [.ref (E.1 + i)] h (some (.int r)) h' 0 0) (he : h[i]? = some (.inr (5, fs))) (hR : d' + 1 ≤ d) (hcm : cells ≤ cm) (hsm : slots ≤ sm) (hcat : (st.map fun v => v.category).sum ≤ 8) (k : jG E x cells slots (pc + 3) lv (.int r :: st) h') : jG E x cells slots pc lv (.ref (E.1 + i) :: st) h := jG_callV F (y := yX5_back) (n := 0) (As := []) (rest := st) (ci := 5) ⟨(jm 613 (by decide +kernel) (by decide +kernel)), (jm 610 (by decide +kernel) (by decide +kernel)), (jm 611 (by decide +kernel) (by decide +kernel)), (jm 612 (by decide +kernel) (by decide +kernel)), (jm 45 (by decide +kernel) (by decide +kernel))⟩ (by decide +kernel) (by decide) rfl hM hR he rfl rfl hcat dg hcm hsm k
theorem jc_L_106 (F : jF E x RL cc nL d cm sm) {i d' : Nat} {fs : List Value} {a0 : Int32} {r : Int32} (dg : decode cc pc = .ok (.invokevirtual 106, 3)) (hM : jMd (jL x) E yX5_count cX5_count 3 (some .int) d' [.ref (E.1 + i), .int a0] h (some (.int r)) h' 0 0) (he : h[i]? = some (.inr (5, fs))) (hR : d' + 1 ≤ d) (hcm : cells ≤ cm) (hsm : slots ≤ sm) (hcat : (st.map fun v => v.category).sum ≤ 8) (k : jG E x cells slots (pc + 3) lv (.int r :: st) h') : jG E x cells slots pc lv (.int a0 :: .ref (E.1 + i) :: st) h := jG_callV F (y := yX5_count) (n := 1) (As := [.int a0]) (rest := st) (ci := 5) ⟨(jm 617 (by decide +kernel) (by decide +kernel)), (jm 614 (by decide +kernel) (by decide +kernel)), (jm 615 (by decide +kernel) (by decide +kernel)), (jm 616 (by decide +kernel) (by decide +kernel)), (jm 45 (by decide +kernel) (by decide +kernel))⟩ (by decide +kernel) (by decide) rfl hM hR he rfl rfl hcat dg hcm hsm k
theorem jc_L_12 (F : jF E x RL cc nL d cm sm) {b0 d' : Nat} {mc ms : Nat}   (dg : decode cc pc = .ok (.invokespecial 12, 3)) (hM : jMd (jL x) E yX6_init cX6_init 1 none d' [.ref b0] h none h' mc ms) (hR : d' + 1 ≤ d) (hcm : cells + mc ≤ cm) (hsm : slots + ms ≤ sm) (hcat : (st.map fun v => v.category).sum ≤ 8) (k : jG E x (cells + mc) (slots + ms) (pc + 3) lv (st) h') : jG E x cells slots pc lv (.ref b0 :: st) h := jG_callI F (y := yX6_init) (n := 0) (As := []) (rest := st) ⟨(jm 622 (by decide +kernel) (by decide +kernel)), (jm 620 (by decide +kernel) (by decide +kernel)), (jm 621 (by decide +kernel) (by decide +kernel)), (jm 51 (by decide +kernel) (by decide +kernel))⟩ rfl (by decide +kernel) (by decide) hM hR rfl rfl hcat dg hcm hsm k
theorem jc_X6_34 (F : jF E x RX6 cc nL d cm sm) {i d' : Nat} {fs : List Value}   (dg : decode cc pc = .ok (.invokevirtual 34, 3)) (hM : jMd (jL x) E yX6_clear cX6_clear 2 none d' [.ref (E.1 + i)] h none h' 0 0) (he : h[i]? = some (.inr (6, fs))) (hR : d' + 1 ≤ d) (hcm : cells ≤ cm) (hsm : slots ≤ sm) (hcat : (st.map fun v => v.category).sum ≤ 8) (k : jG E x cells slots (pc + 3) lv (st) h') : jG E x cells slots pc lv (.ref (E.1 + i) :: st) h := jG_callV F (y := yX6_clear) (n := 0) (As := []) (rest := st) (ci := 6) ⟨(jm 627 (by decide +kernel) (by decide +kernel)), (jm 624 (by decide +kernel) (by decide +kernel)), (jm 626 (by decide +kernel) (by decide +kernel)), (jm 13 (by decide +kernel) (by decide +kernel)), (jm 51 (by decide +kernel) (by decide +kernel))⟩ (by decide +kernel) (by decide) rfl hM hR he rfl rfl hcat dg hcm hsm k
theorem jc_X6_54 (F : jF E x RX6 cc nL d cm sm) {i d' : Nat} {fs : List Value} {a0 : Int32} {a1 : Int32}  (dg : decode cc pc = .ok (.invokevirtual 54, 3)) (hM : jMd (jL x) E yX6_lay cX6_lay 3 none d' [.ref (E.1 + i), .int a0, .int a1] h none h' 0 0) (he : h[i]? = some (.inr (6, fs))) (hR : d' + 1 ≤ d) (hcm : cells ≤ cm) (hsm : slots ≤ sm) (hcat : (st.map fun v => v.category).sum ≤ 8) (k : jG E x cells slots (pc + 3) lv (st) h') : jG E x cells slots pc lv (.int a1 :: .int a0 :: .ref (E.1 + i) :: st) h := jG_callV F (y := yX6_lay) (n := 2) (As := [.int a0, .int a1]) (rest := st) (ci := 6) ⟨(jm 631 (by decide +kernel) (by decide +kernel)), (jm 628 (by decide +kernel) (by decide +kernel)), (jm 630 (by decide +kernel) (by decide +kernel)), (jm 14 (by decide +kernel) (by decide +kernel)), (jm 51 (by decide +kernel) (by decide +kernel))⟩ (by decide +kernel) (by decide) rfl hM hR he rfl rfl hcat dg hcm hsm k
theorem jc_L_17 (F : jF E x RL cc nL d cm sm) {i d' : Nat} {fs : List Value}  {r : Int32} (dg : decode cc pc = .ok (.invokevirtual 17, 3)) (hM : jMd (jL x) E yX6_anew cX6_anew 2 (some .int) d' [.ref (E.1 + i)] h (some (.int r)) h' 0 0) (he : h[i]? = some (.inr (6, fs))) (hR : d' + 1 ≤ d) (hcm : cells ≤ cm) (hsm : slots ≤ sm) (hcat : (st.map fun v => v.category).sum ≤ 8) (k : jG E x cells slots (pc + 3) lv (.int r :: st) h') : jG E x cells slots pc lv (.ref (E.1 + i) :: st) h := jG_callV F (y := yX6_anew) (n := 0) (As := []) (rest := st) (ci := 6) ⟨(jm 678 (by decide +kernel) (by decide +kernel)), (jm 675 (by decide +kernel) (by decide +kernel)), (jm 676 (by decide +kernel) (by decide +kernel)), (jm 677 (by decide +kernel) (by decide +kernel)), (jm 51 (by decide +kernel) (by decide +kernel))⟩ (by decide +kernel) (by decide) rfl hM hR he rfl rfl hcat dg hcm hsm k
theorem jc_X6_98 (F : jF E x RX6 cc nL d cm sm) {i d' : Nat} {fs : List Value}  {r : Int32} (dg : decode cc pc = .ok (.invokevirtual 98, 3)) (hM : jMd (jL x) E yX6_gone cX6_gone 1 (some .int) d' [.ref (E.1 + i)] h (some (.int r)) h' 0 0) (he : h[i]? = some (.inr (6, fs))) (hR : d' + 1 ≤ d) (hcm : cells ≤ cm) (hsm : slots ≤ sm) (hcat : (st.map fun v => v.category).sum ≤ 8) (k : jG E x cells slots (pc + 3) lv (.int r :: st) h') : jG E x cells slots pc lv (.ref (E.1 + i) :: st) h := jG_callV F (y := yX6_gone) (n := 0) (As := []) (rest := st) (ci := 6) ⟨(jm 682 (by decide +kernel) (by decide +kernel)), (jm 679 (by decide +kernel) (by decide +kernel)), (jm 681 (by decide +kernel) (by decide +kernel)), (jm 15 (by decide +kernel) (by decide +kernel)), (jm 51 (by decide +kernel) (by decide +kernel))⟩ (by decide +kernel) (by decide) rfl hM hR he rfl rfl hcat dg hcm hsm k
theorem jc_X6_41 (F : jF E x RX6 cc nL d cm sm) {i d' : Nat} {fs : List Value} {a0 : Int32} {r : Int32} (dg : decode cc pc = .ok (.invokevirtual 41, 3)) (hM : jMd (jL x) E yX6_at cX6_at 2 (some .int) d' [.ref (E.1 + i), .int a0] h (some (.int r)) h' 0 0) (he : h[i]? = some (.inr (6, fs))) (hR : d' + 1 ≤ d) (hcm : cells ≤ cm) (hsm : slots ≤ sm) (hcat : (st.map fun v => v.category).sum ≤ 8) (k : jG E x cells slots (pc + 3) lv (.int r :: st) h') : jG E x cells slots pc lv (.int a0 :: .ref (E.1 + i) :: st) h := jG_callV F (y := yX6_at) (n := 1) (As := [.int a0]) (rest := st) (ci := 6) ⟨(jm 686 (by decide +kernel) (by decide +kernel)), (jm 683 (by decide +kernel) (by decide +kernel)), (jm 685 (by decide +kernel) (by decide +kernel)), (jm 16 (by decide +kernel) (by decide +kernel)), (jm 51 (by decide +kernel) (by decide +kernel))⟩ (by decide +kernel) (by decide) rfl hM hR he rfl rfl hcat dg hcm hsm k
theorem jc_L_22 (F : jF E x RL cc nL d cm sm) {i d' : Nat} {fs : List Value} {a0 : Int32} {a1 : Int32} {r : Int32} (dg : decode cc pc = .ok (.invokevirtual 22, 3)) (hM : jMd (jL x) E yX6_rule cX6_rule 6 (some .int) d' [.ref (E.1 + i), .int a0, .int a1] h (some (.int r)) h' 0 0) (he : h[i]? = some (.inr (6, fs))) (hR : d' + 1 ≤ d) (hcm : cells ≤ cm) (hsm : slots ≤ sm) (hcat : (st.map fun v => v.category).sum ≤ 8) (k : jG E x cells slots (pc + 3) lv (.int r :: st) h') : jG E x cells slots pc lv (.int a1 :: .int a0 :: .ref (E.1 + i) :: st) h := jG_callV F (y := yX6_rule) (n := 2) (As := [.int a0, .int a1]) (rest := st) (ci := 6) ⟨(jm 690 (by decide +kernel) (by decide +kernel)), (jm 687 (by decide +kernel) (by decide +kernel)), (jm 688 (by decide +kernel) (by decide +kernel)), (jm 689 (by decide +kernel) (by decide +kernel)), (jm 51 (by decide +kernel) (by decide +kernel))⟩ (by decide +kernel) (by decide) rfl hM hR he rfl rfl hcat dg hcm hsm k
theorem jc_X6_109 (F : jF E x RX6 cc nL d cm sm) {d' : Nat} {a0 : Int32} {a1 : Int32} {a2 : Int32} {r : Int32} (dg : decode cc pc = .ok (.invokestatic 109, 3)) (hM : jMd (jL x) E yX6_in cX6_in 3 (some .boolean) d' [.int a0, .int a1, .int a2] h (some (.int r)) h' 0 0) (hR : d' + 1 ≤ d) (hcm : cells ≤ cm) (hsm : slots ≤ sm) (hcat : (st.map fun v => v.category).sum ≤ 8) (k : jG E x cells slots (pc + 3) lv (.int r :: st) h') : jG E x cells slots pc lv (.int a2 :: .int a1 :: .int a0 :: st) h := jG_callS F (y := yX6_in) (n := 3) (As := [.int a0, .int a1, .int a2]) (rest := st) ⟨(jm 693 (by decide +kernel) (by decide +kernel)), (jm 691 (by decide +kernel) (by decide +kernel)), (jm 692 (by decide +kernel) (by decide +kernel)), (jm 51 (by decide +kernel) (by decide +kernel))⟩ (by decide +kernel) (by decide) hM hR rfl rfl hcat dg hcm hsm k
theorem jc_X6_84 (F : jF E x RX6 cc nL d cm sm) {i d' : Nat} {fs : List Value}  {r : Int32} (dg : decode cc pc = .ok (.invokevirtual 84, 3)) (hM : jMd (jL x) E yX6_isCome cX6_isCome 1 (some .boolean) d' [.ref (E.1 + i)] h (some (.int r)) h' 0 0) (he : h[i]? = some (.inr (6, fs))) (hR : d' + 1 ≤ d) (hcm : cells ≤ cm) (hsm : slots ≤ sm) (hcat : (st.map fun v => v.category).sum ≤ 8) (k : jG E x cells slots (pc + 3) lv (.int r :: st) h') : jG E x cells slots pc lv (.ref (E.1 + i) :: st) h := jG_callV F (y := yX6_isCome) (n := 0) (As := []) (rest := st) (ci := 6) ⟨(jm 697 (by decide +kernel) (by decide +kernel)), (jm 694 (by decide +kernel) (by decide +kernel)), (jm 696 (by decide +kernel) (by decide +kernel)), (jm 17 (by decide +kernel) (by decide +kernel)), (jm 51 (by decide +kernel) (by decide +kernel))⟩ (by decide +kernel) (by decide) rfl hM hR he rfl rfl hcat dg hcm hsm k
theorem jc_X6_113 (F : jF E x RX6 cc nL d cm sm) {i d' : Nat} {fs : List Value}  {r : Int32} (dg : decode cc pc = .ok (.invokevirtual 113, 3)) (hM : jMd (jL x) E yX6_isOver cX6_isOver 4 (some .boolean) d' [.ref (E.1 + i)] h (some (.int r)) h' 0 0) (he : h[i]? = some (.inr (6, fs))) (hR : d' + 1 ≤ d) (hcm : cells ≤ cm) (hsm : slots ≤ sm) (hcat : (st.map fun v => v.category).sum ≤ 8) (k : jG E x cells slots (pc + 3) lv (.int r :: st) h') : jG E x cells slots pc lv (.ref (E.1 + i) :: st) h := jG_callV F (y := yX6_isOver) (n := 0) (As := []) (rest := st) (ci := 6) ⟨(jm 701 (by decide +kernel) (by decide +kernel)), (jm 698 (by decide +kernel) (by decide +kernel)), (jm 700 (by decide +kernel) (by decide +kernel)), (jm 18 (by decide +kernel) (by decide +kernel)), (jm 51 (by decide +kernel) (by decide +kernel))⟩ (by decide +kernel) (by decide) rfl hM hR he rfl rfl hcat dg hcm hsm k
theorem jc_X6_88 (F : jF E x RX6 cc nL d cm sm) {i d' : Nat} {fs : List Value} {a0 : Int32} {r : Int32} (dg : decode cc pc = .ok (.invokevirtual 88, 3)) (hM : jMd (jL x) E yX6_allIn cX6_allIn 2 (some .boolean) d' [.ref (E.1 + i), .int a0] h (some (.int r)) h' 0 0) (he : h[i]? = some (.inr (6, fs))) (hR : d' + 1 ≤ d) (hcm : cells ≤ cm) (hsm : slots ≤ sm) (hcat : (st.map fun v => v.category).sum ≤ 8) (k : jG E x cells slots (pc + 3) lv (.int r :: st) h') : jG E x cells slots pc lv (.int a0 :: .ref (E.1 + i) :: st) h := jG_callV F (y := yX6_allIn) (n := 1) (As := [.int a0]) (rest := st) (ci := 6) ⟨(jm 705 (by decide +kernel) (by decide +kernel)), (jm 702 (by decide +kernel) (by decide +kernel)), (jm 704 (by decide +kernel) (by decide +kernel)), (jm 19 (by decide +kernel) (by decide +kernel)), (jm 51 (by decide +kernel) (by decide +kernel))⟩ (by decide +kernel) (by decide) rfl hM hR he rfl rfl hcat dg hcm hsm k
theorem jc_X6_45 (F : jF E x RX6 cc nL d cm sm) {i d' : Nat} {fs : List Value} {a0 : Int32} {r : Int32} (dg : decode cc pc = .ok (.invokevirtual 45, 3)) (hM : jMd (jL x) E yX6_how cX6_how 2 (some .int) d' [.ref (E.1 + i), .int a0] h (some (.int r)) h' 0 0) (he : h[i]? = some (.inr (6, fs))) (hR : d' + 1 ≤ d) (hcm : cells ≤ cm) (hsm : slots ≤ sm) (hcat : (st.map fun v => v.category).sum ≤ 8) (k : jG E x cells slots (pc + 3) lv (.int r :: st) h') : jG E x cells slots pc lv (.int a0 :: .ref (E.1 + i) :: st) h := jG_callV F (y := yX6_how) (n := 1) (As := [.int a0]) (rest := st) (ci := 6) ⟨(jm 709 (by decide +kernel) (by decide +kernel)), (jm 706 (by decide +kernel) (by decide +kernel)), (jm 708 (by decide +kernel) (by decide +kernel)), (jm 20 (by decide +kernel) (by decide +kernel)), (jm 51 (by decide +kernel) (by decide +kernel))⟩ (by decide +kernel) (by decide) rfl hM hR he rfl rfl hcat dg hcm hsm k
theorem jc_X6_91 (F : jF E x RX6 cc nL d cm sm) {i d' : Nat} {fs : List Value} {a0 : Int32} {r : Int32} (dg : decode cc pc = .ok (.invokevirtual 91, 3)) (hM : jMd (jL x) E yX6_freeOf cX6_freeOf 4 (some .int) d' [.ref (E.1 + i), .int a0] h (some (.int r)) h' 0 0) (he : h[i]? = some (.inr (6, fs))) (hR : d' + 1 ≤ d) (hcm : cells ≤ cm) (hsm : slots ≤ sm) (hcat : (st.map fun v => v.category).sum ≤ 8) (k : jG E x cells slots (pc + 3) lv (.int r :: st) h') : jG E x cells slots pc lv (.int a0 :: .ref (E.1 + i) :: st) h := jG_callV F (y := yX6_freeOf) (n := 1) (As := [.int a0]) (rest := st) (ci := 6) ⟨(jm 713 (by decide +kernel) (by decide +kernel)), (jm 710 (by decide +kernel) (by decide +kernel)), (jm 712 (by decide +kernel) (by decide +kernel)), (jm 21 (by decide +kernel) (by decide +kernel)), (jm 51 (by decide +kernel) (by decide +kernel))⟩ (by decide +kernel) (by decide) rfl hM hR he rfl rfl hcat dg hcm hsm k
theorem jc_X6_81 (F : jF E x RX6 cc nL d cm sm) {i d' : Nat} {fs : List Value} {a0 : Int32} {r : Int32} (dg : decode cc pc = .ok (.invokevirtual 81, 3)) (hM : jMd (jL x) E yX6_isFree cX6_isFree 2 (some .boolean) d' [.ref (E.1 + i), .int a0] h (some (.int r)) h' 0 0) (he : h[i]? = some (.inr (6, fs))) (hR : d' + 1 ≤ d) (hcm : cells ≤ cm) (hsm : slots ≤ sm) (hcat : (st.map fun v => v.category).sum ≤ 8) (k : jG E x cells slots (pc + 3) lv (.int r :: st) h') : jG E x cells slots pc lv (.int a0 :: .ref (E.1 + i) :: st) h := jG_callV F (y := yX6_isFree) (n := 1) (As := [.int a0]) (rest := st) (ci := 6) ⟨(jm 717 (by decide +kernel) (by decide +kernel)), (jm 714 (by decide +kernel) (by decide +kernel)), (jm 716 (by decide +kernel) (by decide +kernel)), (jm 22 (by decide +kernel) (by decide +kernel)), (jm 51 (by decide +kernel) (by decide +kernel))⟩ (by decide +kernel) (by decide) rfl hM hR he rfl rfl hcat dg hcm hsm k
theorem jc_X6_75 (F : jF E x RX6 cc nL d cm sm) {i d' : Nat} {fs : List Value} {a0 : Int32} {r : Int32} (dg : decode cc pc = .ok (.invokevirtual 75, 3)) (hM : jMd (jL x) E yX6_coverers cX6_coverers 4 (some .int) d' [.ref (E.1 + i), .int a0] h (some (.int r)) h' 0 0) (he : h[i]? = some (.inr (6, fs))) (hR : d' + 1 ≤ d) (hcm : cells ≤ cm) (hsm : slots ≤ sm) (hcat : (st.map fun v => v.category).sum ≤ 8) (k : jG E x cells slots (pc + 3) lv (.int r :: st) h') : jG E x cells slots pc lv (.int a0 :: .ref (E.1 + i) :: st) h := jG_callV F (y := yX6_coverers) (n := 1) (As := [.int a0]) (rest := st) (ci := 6) ⟨(jm 721 (by decide +kernel) (by decide +kernel)), (jm 718 (by decide +kernel) (by decide +kernel)), (jm 720 (by decide +kernel) (by decide +kernel)), (jm 23 (by decide +kernel) (by decide +kernel)), (jm 51 (by decide +kernel) (by decide +kernel))⟩ (by decide +kernel) (by decide) rfl hM hR he rfl rfl hcat dg hcm hsm k
theorem jc_X6_71 (F : jF E x RX6 cc nL d cm sm) {i d' : Nat} {fs : List Value} {a0 : Int32} {a1 : Int32} {r : Int32} (dg : decode cc pc = .ok (.invokevirtual 71, 3)) (hM : jMd (jL x) E yX6_covers cX6_covers 6 (some .boolean) d' [.ref (E.1 + i), .int a0, .int a1] h (some (.int r)) h' 0 0) (he : h[i]? = some (.inr (6, fs))) (hR : d' + 1 ≤ d) (hcm : cells ≤ cm) (hsm : slots ≤ sm) (hcat : (st.map fun v => v.category).sum ≤ 8) (k : jG E x cells slots (pc + 3) lv (.int r :: st) h') : jG E x cells slots pc lv (.int a1 :: .int a0 :: .ref (E.1 + i) :: st) h := jG_callV F (y := yX6_covers) (n := 2) (As := [.int a0, .int a1]) (rest := st) (ci := 6) ⟨(jm 725 (by decide +kernel) (by decide +kernel)), (jm 722 (by decide +kernel) (by decide +kernel)), (jm 724 (by decide +kernel) (by decide +kernel)), (jm 24 (by decide +kernel) (by decide +kernel)), (jm 51 (by decide +kernel) (by decide +kernel))⟩ (by decide +kernel) (by decide) rfl hM hR he rfl rfl hcat dg hcm hsm k
theorem jc_X6_58 (F : jF E x RX6 cc nL d cm sm) {i d' : Nat} {fs : List Value} {a0 : Int32} {r : Int32} (dg : decode cc pc = .ok (.invokevirtual 58, 3)) (hM : jMd (jL x) E yX6_xOf cX6_xOf 2 (some .int) d' [.ref (E.1 + i), .int a0] h (some (.int r)) h' 0 0) (he : h[i]? = some (.inr (6, fs))) (hR : d' + 1 ≤ d) (hcm : cells ≤ cm) (hsm : slots ≤ sm) (hcat : (st.map fun v => v.category).sum ≤ 8) (k : jG E x cells slots (pc + 3) lv (.int r :: st) h') : jG E x cells slots pc lv (.int a0 :: .ref (E.1 + i) :: st) h := jG_callV F (y := yX6_xOf) (n := 1) (As := [.int a0]) (rest := st) (ci := 6) ⟨(jm 729 (by decide +kernel) (by decide +kernel)), (jm 726 (by decide +kernel) (by decide +kernel)), (jm 728 (by decide +kernel) (by decide +kernel)), (jm 25 (by decide +kernel) (by decide +kernel)), (jm 51 (by decide +kernel) (by decide +kernel))⟩ (by decide +kernel) (by decide) rfl hM hR he rfl rfl hcat dg hcm hsm k
theorem jc_X6_48 (F : jF E x RX6 cc nL d cm sm) {d' : Nat} {a0 : Int32} {r : Int32} (dg : decode cc pc = .ok (.invokestatic 48, 3)) (hM : jMd (jL x) E yX6_baseX cX6_baseX 1 (some .int) d' [.int a0] h (some (.int r)) h' 0 0) (hR : d' + 1 ≤ d) (hcm : cells ≤ cm) (hsm : slots ≤ sm) (hcat : (st.map fun v => v.category).sum ≤ 8) (k : jG E x cells slots (pc + 3) lv (.int r :: st) h') : jG E x cells slots pc lv (.int a0 :: st) h := jG_callS F (y := yX6_baseX) (n := 1) (As := [.int a0]) (rest := st) ⟨(jm 732 (by decide +kernel) (by decide +kernel)), (jm 730 (by decide +kernel) (by decide +kernel)), (jm 731 (by decide +kernel) (by decide +kernel)), (jm 51 (by decide +kernel) (by decide +kernel))⟩ (by decide +kernel) (by decide) hM hR rfl rfl hcat dg hcm hsm k
theorem jc_X6_61 (F : jF E x RX6 cc nL d cm sm) {d' : Nat} {a0 : Int32} {r : Int32} (dg : decode cc pc = .ok (.invokestatic 61, 3)) (hM : jMd (jL x) E yX6_isOff cX6_isOff 1 (some .boolean) d' [.int a0] h (some (.int r)) h' 0 0) (hR : d' + 1 ≤ d) (hcm : cells ≤ cm) (hsm : slots ≤ sm) (hcat : (st.map fun v => v.category).sum ≤ 8) (k : jG E x cells slots (pc + 3) lv (.int r :: st) h') : jG E x cells slots pc lv (.int a0 :: st) h := jG_callS F (y := yX6_isOff) (n := 1) (As := [.int a0]) (rest := st) ⟨(jm 735 (by decide +kernel) (by decide +kernel)), (jm 733 (by decide +kernel) (by decide +kernel)), (jm 734 (by decide +kernel) (by decide +kernel)), (jm 51 (by decide +kernel) (by decide +kernel))⟩ (by decide +kernel) (by decide) hM hR rfl rfl hcat dg hcm hsm k
theorem jc_X6_65 (F : jF E x RX6 cc nL d cm sm) {i d' : Nat} {fs : List Value} {a0 : Int32} {r : Int32} (dg : decode cc pc = .ok (.invokevirtual 65, 3)) (hM : jMd (jL x) E yX6_yOf cX6_yOf 2 (some .int) d' [.ref (E.1 + i), .int a0] h (some (.int r)) h' 0 0) (he : h[i]? = some (.inr (6, fs))) (hR : d' + 1 ≤ d) (hcm : cells ≤ cm) (hsm : slots ≤ sm) (hcat : (st.map fun v => v.category).sum ≤ 8) (k : jG E x cells slots (pc + 3) lv (.int r :: st) h') : jG E x cells slots pc lv (.int a0 :: .ref (E.1 + i) :: st) h := jG_callV F (y := yX6_yOf) (n := 1) (As := [.int a0]) (rest := st) (ci := 6) ⟨(jm 739 (by decide +kernel) (by decide +kernel)), (jm 736 (by decide +kernel) (by decide +kernel)), (jm 738 (by decide +kernel) (by decide +kernel)), (jm 26 (by decide +kernel) (by decide +kernel)), (jm 51 (by decide +kernel) (by decide +kernel))⟩ (by decide +kernel) (by decide) rfl hM hR he rfl rfl hcat dg hcm hsm k
theorem jc_X6_51 (F : jF E x RX6 cc nL d cm sm) {d' : Nat} {a0 : Int32} {r : Int32} (dg : decode cc pc = .ok (.invokestatic 51, 3)) (hM : jMd (jL x) E yX6_baseY cX6_baseY 1 (some .int) d' [.int a0] h (some (.int r)) h' 0 0) (hR : d' + 1 ≤ d) (hcm : cells ≤ cm) (hsm : slots ≤ sm) (hcat : (st.map fun v => v.category).sum ≤ 8) (k : jG E x cells slots (pc + 3) lv (.int r :: st) h') : jG E x cells slots pc lv (.int a0 :: st) h := jG_callS F (y := yX6_baseY) (n := 1) (As := [.int a0]) (rest := st) ⟨(jm 742 (by decide +kernel) (by decide +kernel)), (jm 740 (by decide +kernel) (by decide +kernel)), (jm 741 (by decide +kernel) (by decide +kernel)), (jm 51 (by decide +kernel) (by decide +kernel))⟩ (by decide +kernel) (by decide) hM hR rfl rfl hcat dg hcm hsm k
theorem jc_X6_68 (F : jF E x RX6 cc nL d cm sm) {d' : Nat} {a0 : Int32} {r : Int32} (dg : decode cc pc = .ok (.invokestatic 68, 3)) (hM : jMd (jL x) E yX6_sizeOf cX6_sizeOf 1 (some .int) d' [.int a0] h (some (.int r)) h' 0 0) (hR : d' + 1 ≤ d) (hcm : cells ≤ cm) (hsm : slots ≤ sm) (hcat : (st.map fun v => v.category).sum ≤ 8) (k : jG E x cells slots (pc + 3) lv (.int r :: st) h') : jG E x cells slots pc lv (.int a0 :: st) h := jG_callS F (y := yX6_sizeOf) (n := 1) (As := [.int a0]) (rest := st) ⟨(jm 745 (by decide +kernel) (by decide +kernel)), (jm 743 (by decide +kernel) (by decide +kernel)), (jm 744 (by decide +kernel) (by decide +kernel)), (jm 51 (by decide +kernel) (by decide +kernel))⟩ (by decide +kernel) (by decide) hM hR rfl rfl hcat dg hcm hsm k
theorem jc_X6_102 (F : jF E x RX6 cc nL d cm sm) {i d' : Nat} {fs : List Value}  {r : Int32} (dg : decode cc pc = .ok (.invokevirtual 102, 3)) (hM : jMd (jL x) E yX6_turn cX6_turn 1 (some .int) d' [.ref (E.1 + i)] h (some (.int r)) h' 0 0) (he : h[i]? = some (.inr (6, fs))) (hR : d' + 1 ≤ d) (hcm : cells ≤ cm) (hsm : slots ≤ sm) (hcat : (st.map fun v => v.category).sum ≤ 8) (k : jG E x cells slots (pc + 3) lv (.int r :: st) h') : jG E x cells slots pc lv (.ref (E.1 + i) :: st) h := jG_callV F (y := yX6_turn) (n := 0) (As := []) (rest := st) (ci := 6) ⟨(jm 749 (by decide +kernel) (by decide +kernel)), (jm 746 (by decide +kernel) (by decide +kernel)), (jm 748 (by decide +kernel) (by decide +kernel)), (jm 27 (by decide +kernel) (by decide +kernel)), (jm 51 (by decide +kernel) (by decide +kernel))⟩ (by decide +kernel) (by decide) rfl hM hR he rfl rfl hcat dg hcm hsm k
theorem jc_X6_105 (F : jF E x RX6 cc nL d cm sm) {i d' : Nat} {fs : List Value} {a0 : Int32} {a1 : Int32}  (dg : decode cc pc = .ok (.invokevirtual 105, 3)) (hM : jMd (jL x) E yX6_passOver cX6_passOver 5 none d' [.ref (E.1 + i), .int a0, .int a1] h none h' 0 0) (he : h[i]? = some (.inr (6, fs))) (hR : d' + 1 ≤ d) (hcm : cells ≤ cm) (hsm : slots ≤ sm) (hcat : (st.map fun v => v.category).sum ≤ 8) (k : jG E x cells slots (pc + 3) lv (st) h') : jG E x cells slots pc lv (.int a1 :: .int a0 :: .ref (E.1 + i) :: st) h := jG_callV F (y := yX6_passOver) (n := 2) (As := [.int a0, .int a1]) (rest := st) (ci := 6) ⟨(jm 753 (by decide +kernel) (by decide +kernel)), (jm 750 (by decide +kernel) (by decide +kernel)), (jm 752 (by decide +kernel) (by decide +kernel)), (jm 28 (by decide +kernel) (by decide +kernel)), (jm 51 (by decide +kernel) (by decide +kernel))⟩ (by decide +kernel) (by decide) rfl hM hR he rfl rfl hcat dg hcm hsm k
theorem jc_X6_94 (F : jF E x RX6 cc nL d cm sm) {i d' : Nat} {fs : List Value} {a0 : Int32} {a1 : Int32} {r : Int32} (dg : decode cc pc = .ok (.invokevirtual 94, 3)) (hM : jMd (jL x) E yX6_next cX6_next 3 (some .int) d' [.ref (E.1 + i), .int a0, .int a1] h (some (.int r)) h' 0 0) (he : h[i]? = some (.inr (6, fs))) (hR : d' + 1 ≤ d) (hcm : cells ≤ cm) (hsm : slots ≤ sm) (hcat : (st.map fun v => v.category).sum ≤ 8) (k : jG E x cells slots (pc + 3) lv (.int r :: st) h') : jG E x cells slots pc lv (.int a1 :: .int a0 :: .ref (E.1 + i) :: st) h := jG_callV F (y := yX6_next) (n := 2) (As := [.int a0, .int a1]) (rest := st) (ci := 6) ⟨(jm 757 (by decide +kernel) (by decide +kernel)), (jm 754 (by decide +kernel) (by decide +kernel)), (jm 756 (by decide +kernel) (by decide +kernel)), (jm 29 (by decide +kernel) (by decide +kernel)), (jm 51 (by decide +kernel) (by decide +kernel))⟩ (by decide +kernel) (by decide) rfl hM hR he rfl rfl hcat dg hcm hsm k
theorem jc_L_27 (F : jF E x RL cc nL d cm sm) {i d' : Nat} {fs : List Value} {a0 : Int32} {r : Int32} (dg : decode cc pc = .ok (.invokevirtual 27, 3)) (hM : jMd (jL x) E yX6_seed cX6_seed 2 (some .int) d' [.ref (E.1 + i), .int a0] h (some (.int r)) h' 0 0) (he : h[i]? = some (.inr (6, fs))) (hR : d' + 1 ≤ d) (hcm : cells ≤ cm) (hsm : slots ≤ sm) (hcat : (st.map fun v => v.category).sum ≤ 8) (k : jG E x cells slots (pc + 3) lv (.int r :: st) h') : jG E x cells slots pc lv (.int a0 :: .ref (E.1 + i) :: st) h := jG_callV F (y := yX6_seed) (n := 1) (As := [.int a0]) (rest := st) (ci := 6) ⟨(jm 761 (by decide +kernel) (by decide +kernel)), (jm 758 (by decide +kernel) (by decide +kernel)), (jm 759 (by decide +kernel) (by decide +kernel)), (jm 760 (by decide +kernel) (by decide +kernel)), (jm 51 (by decide +kernel) (by decide +kernel))⟩ (by decide +kernel) (by decide) rfl hM hR he rfl rfl hcat dg hcm hsm k
theorem jc_L_32 (F : jF E x RL cc nL d cm sm) {i d' : Nat} {fs : List Value} {a0 : Int32} {a1 : Int32} {a2 : Int32} {r : Int32} (dg : decode cc pc = .ok (.invokevirtual 32, 3)) (hM : jMd (jL x) E yX6_put cX6_put 4 (some .int) d' [.ref (E.1 + i), .int a0, .int a1, .int a2] h (some (.int r)) h' 0 0) (he : h[i]? = some (.inr (6, fs))) (hR : d' + 1 ≤ d) (hcm : cells ≤ cm) (hsm : slots ≤ sm) (hcat : (st.map fun v => v.category).sum ≤ 8) (k : jG E x cells slots (pc + 3) lv (.int r :: st) h') : jG E x cells slots pc lv (.int a2 :: .int a1 :: .int a0 :: .ref (E.1 + i) :: st) h := jG_callV F (y := yX6_put) (n := 3) (As := [.int a0, .int a1, .int a2]) (rest := st) (ci := 6) ⟨(jm 766 (by decide +kernel) (by decide +kernel)), (jm 763 (by decide +kernel) (by decide +kernel)), (jm 764 (by decide +kernel) (by decide +kernel)), (jm 765 (by decide +kernel) (by decide +kernel)), (jm 51 (by decide +kernel) (by decide +kernel))⟩ (by decide +kernel) (by decide) rfl hM hR he rfl rfl hcat dg hcm hsm k
theorem jc_X6_117 (F : jF E x RX6 cc nL d cm sm) {d' : Nat} {a0 : Int32} {r : Int32} (dg : decode cc pc = .ok (.invokestatic 117, 3)) (hM : jMd (jL x) E yX6_isDisc cX6_isDisc 1 (some .boolean) d' [.int a0] h (some (.int r)) h' 0 0) (hR : d' + 1 ≤ d) (hcm : cells ≤ cm) (hsm : slots ≤ sm) (hcat : (st.map fun v => v.category).sum ≤ 8) (k : jG E x cells slots (pc + 3) lv (.int r :: st) h') : jG E x cells slots pc lv (.int a0 :: st) h := jG_callS F (y := yX6_isDisc) (n := 1) (As := [.int a0]) (rest := st) ⟨(jm 769 (by decide +kernel) (by decide +kernel)), (jm 767 (by decide +kernel) (by decide +kernel)), (jm 768 (by decide +kernel) (by decide +kernel)), (jm 51 (by decide +kernel) (by decide +kernel))⟩ (by decide +kernel) (by decide) hM hR rfl rfl hcat dg hcm hsm k
theorem jc_X6_120 (F : jF E x RX6 cc nL d cm sm) {d' : Nat} {a0 : Int32} {a1 : Int32} {r : Int32} (dg : decode cc pc = .ok (.invokestatic 120, 3)) (hM : jMd (jL x) E yX6_isSpot cX6_isSpot 2 (some .boolean) d' [.int a0, .int a1] h (some (.int r)) h' 0 0) (hR : d' + 1 ≤ d) (hcm : cells ≤ cm) (hsm : slots ≤ sm) (hcat : (st.map fun v => v.category).sum ≤ 8) (k : jG E x cells slots (pc + 3) lv (.int r :: st) h') : jG E x cells slots pc lv (.int a1 :: .int a0 :: st) h := jG_callS F (y := yX6_isSpot) (n := 2) (As := [.int a0, .int a1]) (rest := st) ⟨(jm 772 (by decide +kernel) (by decide +kernel)), (jm 770 (by decide +kernel) (by decide +kernel)), (jm 771 (by decide +kernel) (by decide +kernel)), (jm 51 (by decide +kernel) (by decide +kernel))⟩ (by decide +kernel) (by decide) hM hR rfl rfl hcat dg hcm hsm k
theorem jc_X6_123 (F : jF E x RX6 cc nL d cm sm) {d' : Nat} {a0 : Int32} {a1 : Int32} {r : Int32} (dg : decode cc pc = .ok (.invokestatic 123, 3)) (hM : jMd (jL x) E yX6_isCup cX6_isCup 2 (some .boolean) d' [.int a0, .int a1] h (some (.int r)) h' 0 0) (hR : d' + 1 ≤ d) (hcm : cells ≤ cm) (hsm : slots ≤ sm) (hcat : (st.map fun v => v.category).sum ≤ 8) (k : jG E x cells slots (pc + 3) lv (.int r :: st) h') : jG E x cells slots pc lv (.int a1 :: .int a0 :: st) h := jG_callS F (y := yX6_isCup) (n := 2) (As := [.int a0, .int a1]) (rest := st) ⟨(jm 775 (by decide +kernel) (by decide +kernel)), (jm 773 (by decide +kernel) (by decide +kernel)), (jm 774 (by decide +kernel) (by decide +kernel)), (jm 51 (by decide +kernel) (by decide +kernel))⟩ (by decide +kernel) (by decide) hM hR rfl rfl hcat dg hcm hsm k
theorem jc_X6_126 (F : jF E x RX6 cc nL d cm sm) {d' : Nat} {a0 : Int32} {a1 : Int32} {r : Int32} (dg : decode cc pc = .ok (.invokestatic 126, 3)) (hM : jMd (jL x) E yX6_isNowhere cX6_isNowhere 2 (some .boolean) d' [.int a0, .int a1] h (some (.int r)) h' 0 0) (hR : d' + 1 ≤ d) (hcm : cells ≤ cm) (hsm : slots ≤ sm) (hcat : (st.map fun v => v.category).sum ≤ 8) (k : jG E x cells slots (pc + 3) lv (.int r :: st) h') : jG E x cells slots pc lv (.int a1 :: .int a0 :: st) h := jG_callS F (y := yX6_isNowhere) (n := 2) (As := [.int a0, .int a1]) (rest := st) ⟨(jm 778 (by decide +kernel) (by decide +kernel)), (jm 776 (by decide +kernel) (by decide +kernel)), (jm 777 (by decide +kernel) (by decide +kernel)), (jm 51 (by decide +kernel) (by decide +kernel))⟩ (by decide +kernel) (by decide) hM hR rfl rfl hcat dg hcm hsm k
theorem jc_X6_129 (F : jF E x RX6 cc nL d cm sm) {i d' : Nat} {fs : List Value} {a0 : Int32} {a1 : Int32} {a2 : Int32}  (dg : decode cc pc = .ok (.invokevirtual 129, 3)) (hM : jMd (jL x) E yX6_place cX6_place 4 none d' [.ref (E.1 + i), .int a0, .int a1, .int a2] h none h' 0 0) (he : h[i]? = some (.inr (6, fs))) (hR : d' + 1 ≤ d) (hcm : cells ≤ cm) (hsm : slots ≤ sm) (hcat : (st.map fun v => v.category).sum ≤ 8) (k : jG E x cells slots (pc + 3) lv (st) h') : jG E x cells slots pc lv (.int a2 :: .int a1 :: .int a0 :: .ref (E.1 + i) :: st) h := jG_callV F (y := yX6_place) (n := 3) (As := [.int a0, .int a1, .int a2]) (rest := st) (ci := 6) ⟨(jm 782 (by decide +kernel) (by decide +kernel)), (jm 779 (by decide +kernel) (by decide +kernel)), (jm 781 (by decide +kernel) (by decide +kernel)), (jm 30 (by decide +kernel) (by decide +kernel)), (jm 51 (by decide +kernel) (by decide +kernel))⟩ (by decide +kernel) (by decide) rfl hM hR he rfl rfl hcat dg hcm hsm k
theorem jc_L_36 (F : jF E x RL cc nL d cm sm) {i d' : Nat} {fs : List Value} {a0 : Int32} {a1 : Int32} {r : Int32} (dg : decode cc pc = .ok (.invokevirtual 36, 3)) (hM : jMd (jL x) E yX6_about cX6_about 3 (some .int) d' [.ref (E.1 + i), .int a0, .int a1] h (some (.int r)) h' 0 0) (he : h[i]? = some (.inr (6, fs))) (hR : d' + 1 ≤ d) (hcm : cells ≤ cm) (hsm : slots ≤ sm) (hcat : (st.map fun v => v.category).sum ≤ 8) (k : jG E x cells slots (pc + 3) lv (.int r :: st) h') : jG E x cells slots pc lv (.int a1 :: .int a0 :: .ref (E.1 + i) :: st) h := jG_callV F (y := yX6_about) (n := 2) (As := [.int a0, .int a1]) (rest := st) (ci := 6) ⟨(jm 786 (by decide +kernel) (by decide +kernel)), (jm 783 (by decide +kernel) (by decide +kernel)), (jm 784 (by decide +kernel) (by decide +kernel)), (jm 785 (by decide +kernel) (by decide +kernel)), (jm 51 (by decide +kernel) (by decide +kernel))⟩ (by decide +kernel) (by decide) rfl hM hR he rfl rfl hcat dg hcm hsm k
theorem jc_X6_78 (F : jF E x RX6 cc nL d cm sm) {i d' : Nat} {fs : List Value} {a0 : Int32} {r : Int32} (dg : decode cc pc = .ok (.invokevirtual 78, 3)) (hM : jMd (jL x) E yX6_covered cX6_covered 4 (some .int) d' [.ref (E.1 + i), .int a0] h (some (.int r)) h' 0 0) (he : h[i]? = some (.inr (6, fs))) (hR : d' + 1 ≤ d) (hcm : cells ≤ cm) (hsm : slots ≤ sm) (hcat : (st.map fun v => v.category).sum ≤ 8) (k : jG E x cells slots (pc + 3) lv (.int r :: st) h') : jG E x cells slots pc lv (.int a0 :: .ref (E.1 + i) :: st) h := jG_callV F (y := yX6_covered) (n := 1) (As := [.int a0]) (rest := st) (ci := 6) ⟨(jm 790 (by decide +kernel) (by decide +kernel)), (jm 787 (by decide +kernel) (by decide +kernel)), (jm 789 (by decide +kernel) (by decide +kernel)), (jm 31 (by decide +kernel) (by decide +kernel)), (jm 51 (by decide +kernel) (by decide +kernel))⟩ (by decide +kernel) (by decide) rfl hM hR he rfl rfl hcat dg hcm hsm k
theorem jc_X6_133 (F : jF E x RX6 cc nL d cm sm) {i d' : Nat} {fs : List Value} {a0 : Int32} {r : Int32} (dg : decode cc pc = .ok (.invokevirtual 133, 3)) (hM : jMd (jL x) E yX6_pile cX6_pile 5 (some .int) d' [.ref (E.1 + i), .int a0] h (some (.int r)) h' 0 0) (he : h[i]? = some (.inr (6, fs))) (hR : d' + 1 ≤ d) (hcm : cells ≤ cm) (hsm : slots ≤ sm) (hcat : (st.map fun v => v.category).sum ≤ 8) (k : jG E x cells slots (pc + 3) lv (.int r :: st) h') : jG E x cells slots pc lv (.int a0 :: .ref (E.1 + i) :: st) h := jG_callV F (y := yX6_pile) (n := 1) (As := [.int a0]) (rest := st) (ci := 6) ⟨(jm 794 (by decide +kernel) (by decide +kernel)), (jm 791 (by decide +kernel) (by decide +kernel)), (jm 793 (by decide +kernel) (by decide +kernel)), (jm 32 (by decide +kernel) (by decide +kernel)), (jm 51 (by decide +kernel) (by decide +kernel))⟩ (by decide +kernel) (by decide) rfl hM hR he rfl rfl hcat dg hcm hsm k
theorem jc_L_40 (F : jF E x RL cc nL d cm sm) {i d' : Nat} {fs : List Value} {a0 : Int32} {a1 : Int32} {a2 : Int32} {r : Int32} (dg : decode cc pc = .ok (.invokevirtual 40, 3)) (hM : jMd (jL x) E yX6_shoot cX6_shoot 12 (some .int) d' [.ref (E.1 + i), .int a0, .int a1, .int a2] h (some (.int r)) h' 0 0) (he : h[i]? = some (.inr (6, fs))) (hR : d' + 1 ≤ d) (hcm : cells ≤ cm) (hsm : slots ≤ sm) (hcat : (st.map fun v => v.category).sum ≤ 8) (k : jG E x cells slots (pc + 3) lv (.int r :: st) h') : jG E x cells slots pc lv (.int a2 :: .int a1 :: .int a0 :: .ref (E.1 + i) :: st) h := jG_callV F (y := yX6_shoot) (n := 3) (As := [.int a0, .int a1, .int a2]) (rest := st) (ci := 6) ⟨(jm 798 (by decide +kernel) (by decide +kernel)), (jm 795 (by decide +kernel) (by decide +kernel)), (jm 796 (by decide +kernel) (by decide +kernel)), (jm 797 (by decide +kernel) (by decide +kernel)), (jm 51 (by decide +kernel) (by decide +kernel))⟩ (by decide +kernel) (by decide) rfl hM hR he rfl rfl hcat dg hcm hsm k
theorem jc_X6_143 (F : jF E x RX6 cc nL d cm sm) {i d' : Nat} {fs : List Value} {a0 : Int32} {r : Int32} (dg : decode cc pc = .ok (.invokevirtual 143, 3)) (hM : jMd (jL x) E yX6_mayShoot cX6_mayShoot 2 (some .boolean) d' [.ref (E.1 + i), .int a0] h (some (.int r)) h' 0 0) (he : h[i]? = some (.inr (6, fs))) (hR : d' + 1 ≤ d) (hcm : cells ≤ cm) (hsm : slots ≤ sm) (hcat : (st.map fun v => v.category).sum ≤ 8) (k : jG E x cells slots (pc + 3) lv (.int r :: st) h') : jG E x cells slots pc lv (.int a0 :: .ref (E.1 + i) :: st) h := jG_callV F (y := yX6_mayShoot) (n := 1) (As := [.int a0]) (rest := st) (ci := 6) ⟨(jm 802 (by decide +kernel) (by decide +kernel)), (jm 799 (by decide +kernel) (by decide +kernel)), (jm 801 (by decide +kernel) (by decide +kernel)), (jm 33 (by decide +kernel) (by decide +kernel)), (jm 51 (by decide +kernel) (by decide +kernel))⟩ (by decide +kernel) (by decide) rfl hM hR he rfl rfl hcat dg hcm hsm k
theorem jc_X6_146 (F : jF E x RX6 cc nL d cm sm) {d' : Nat} {a0 : Int32} {a1 : Int32} {a2 : Int32} {a3 : Int32} {r : Int32} (dg : decode cc pc = .ok (.invokestatic 146, 3)) (hM : jMd (jL x) E yX6_wayOf cX6_wayOf 6 (some .int) d' [.int a0, .int a1, .int a2, .int a3] h (some (.int r)) h' 0 0) (hR : d' + 1 ≤ d) (hcm : cells ≤ cm) (hsm : slots ≤ sm) (hcat : (st.map fun v => v.category).sum ≤ 8) (k : jG E x cells slots (pc + 3) lv (.int r :: st) h') : jG E x cells slots pc lv (.int a3 :: .int a2 :: .int a1 :: .int a0 :: st) h := jG_callS F (y := yX6_wayOf) (n := 4) (As := [.int a0, .int a1, .int a2, .int a3]) (rest := st) ⟨(jm 805 (by decide +kernel) (by decide +kernel)), (jm 803 (by decide +kernel) (by decide +kernel)), (jm 804 (by decide +kernel) (by decide +kernel)), (jm 51 (by decide +kernel) (by decide +kernel))⟩ (by decide +kernel) (by decide) hM hR rfl rfl hcat dg hcm hsm k
theorem jc_X6_140 (F : jF E x RX6 cc nL d cm sm) {d' : Nat} {a0 : Int32} {r : Int32} (dg : decode cc pc = .ok (.invokestatic 140, 3)) (hM : jMd (jL x) E yX6_size cX6_size 1 (some .int) d' [.int a0] h (some (.int r)) h' 0 0) (hR : d' + 1 ≤ d) (hcm : cells ≤ cm) (hsm : slots ≤ sm) (hcat : (st.map fun v => v.category).sum ≤ 8) (k : jG E x cells slots (pc + 3) lv (.int r :: st) h') : jG E x cells slots pc lv (.int a0 :: st) h := jG_callS F (y := yX6_size) (n := 1) (As := [.int a0]) (rest := st) ⟨(jm 808 (by decide +kernel) (by decide +kernel)), (jm 806 (by decide +kernel) (by decide +kernel)), (jm 807 (by decide +kernel) (by decide +kernel)), (jm 51 (by decide +kernel) (by decide +kernel))⟩ (by decide +kernel) (by decide) hM hR rfl rfl hcat dg hcm hsm k
theorem jc_X6_150 (F : jF E x RX6 cc nL d cm sm) {i d' : Nat} {fs : List Value} {a0 : Int32} {r : Int32} (dg : decode cc pc = .ok (.invokevirtual 150, 3)) (hM : jMd (jL x) E yX6_draw cX6_draw 2 (some .int) d' [.ref (E.1 + i), .int a0] h (some (.int r)) h' 0 0) (he : h[i]? = some (.inr (6, fs))) (hR : d' + 1 ≤ d) (hcm : cells ≤ cm) (hsm : slots ≤ sm) (hcat : (st.map fun v => v.category).sum ≤ 8) (k : jG E x cells slots (pc + 3) lv (.int r :: st) h') : jG E x cells slots pc lv (.int a0 :: .ref (E.1 + i) :: st) h := jG_callV F (y := yX6_draw) (n := 1) (As := [.int a0]) (rest := st) (ci := 6) ⟨(jm 812 (by decide +kernel) (by decide +kernel)), (jm 809 (by decide +kernel) (by decide +kernel)), (jm 811 (by decide +kernel) (by decide +kernel)), (jm 34 (by decide +kernel) (by decide +kernel)), (jm 51 (by decide +kernel) (by decide +kernel))⟩ (by decide +kernel) (by decide) rfl hM hR he rfl rfl hcat dg hcm hsm k
theorem jc_X6_153 (F : jF E x RX6 cc nL d cm sm) {d' : Nat} {a0 : Int32} {r : Int32} (dg : decode cc pc = .ok (.invokestatic 153, 3)) (hM : jMd (jL x) E yX6_sign cX6_sign 1 (some .int) d' [.int a0] h (some (.int r)) h' 0 0) (hR : d' + 1 ≤ d) (hcm : cells ≤ cm) (hsm : slots ≤ sm) (hcat : (st.map fun v => v.category).sum ≤ 8) (k : jG E x cells slots (pc + 3) lv (.int r :: st) h') : jG E x cells slots pc lv (.int a0 :: st) h := jG_callS F (y := yX6_sign) (n := 1) (As := [.int a0]) (rest := st) ⟨(jm 817 (by decide +kernel) (by decide +kernel)), (jm 815 (by decide +kernel) (by decide +kernel)), (jm 816 (by decide +kernel) (by decide +kernel)), (jm 51 (by decide +kernel) (by decide +kernel))⟩ (by decide +kernel) (by decide) hM hR rfl rfl hcat dg hcm hsm k
theorem jc_X6_156 (F : jF E x RX6 cc nL d cm sm) {d' : Nat} {a0 : Int32} {r : Int32} (dg : decode cc pc = .ok (.invokestatic 156, 3)) (hM : jMd (jL x) E yX6_onMat cX6_onMat 1 (some .int) d' [.int a0] h (some (.int r)) h' 0 0) (hR : d' + 1 ≤ d) (hcm : cells ≤ cm) (hsm : slots ≤ sm) (hcat : (st.map fun v => v.category).sum ≤ 8) (k : jG E x cells slots (pc + 3) lv (.int r :: st) h') : jG E x cells slots pc lv (.int a0 :: st) h := jG_callS F (y := yX6_onMat) (n := 1) (As := [.int a0]) (rest := st) ⟨(jm 820 (by decide +kernel) (by decide +kernel)), (jm 818 (by decide +kernel) (by decide +kernel)), (jm 819 (by decide +kernel) (by decide +kernel)), (jm 51 (by decide +kernel) (by decide +kernel))⟩ (by decide +kernel) (by decide) hM hR rfl rfl hcat dg hcm hsm k
theorem jc_X6_159 (F : jF E x RX6 cc nL d cm sm) {i d' : Nat} {fs : List Value} {a0 : Int32}  (dg : decode cc pc = .ok (.invokevirtual 159, 3)) (hM : jMd (jL x) E yX6_goOn cX6_goOn 2 none d' [.ref (E.1 + i), .int a0] h none h' 0 0) (he : h[i]? = some (.inr (6, fs))) (hR : d' + 1 ≤ d) (hcm : cells ≤ cm) (hsm : slots ≤ sm) (hcat : (st.map fun v => v.category).sum ≤ 8) (k : jG E x cells slots (pc + 3) lv (st) h') : jG E x cells slots pc lv (.int a0 :: .ref (E.1 + i) :: st) h := jG_callV F (y := yX6_goOn) (n := 1) (As := [.int a0]) (rest := st) (ci := 6) ⟨(jm 824 (by decide +kernel) (by decide +kernel)), (jm 821 (by decide +kernel) (by decide +kernel)), (jm 823 (by decide +kernel) (by decide +kernel)), (jm 35 (by decide +kernel) (by decide +kernel)), (jm 51 (by decide +kernel) (by decide +kernel))⟩ (by decide +kernel) (by decide) rfl hM hR he rfl rfl hcat dg hcm hsm k
theorem jc_L_44 (F : jF E x RL cc nL d cm sm) {i d' : Nat} {fs : List Value} {a0 : Int32} {r : Int32} (dg : decode cc pc = .ok (.invokevirtual 44, 3)) (hM : jMd (jL x) E yX6_blow cX6_blow 6 (some .int) d' [.ref (E.1 + i), .int a0] h (some (.int r)) h' 0 0) (he : h[i]? = some (.inr (6, fs))) (hR : d' + 1 ≤ d) (hcm : cells ≤ cm) (hsm : slots ≤ sm) (hcat : (st.map fun v => v.category).sum ≤ 8) (k : jG E x cells slots (pc + 3) lv (.int r :: st) h') : jG E x cells slots pc lv (.int a0 :: .ref (E.1 + i) :: st) h := jG_callV F (y := yX6_blow) (n := 1) (As := [.int a0]) (rest := st) (ci := 6) ⟨(jm 828 (by decide +kernel) (by decide +kernel)), (jm 825 (by decide +kernel) (by decide +kernel)), (jm 826 (by decide +kernel) (by decide +kernel)), (jm 827 (by decide +kernel) (by decide +kernel)), (jm 51 (by decide +kernel) (by decide +kernel))⟩ (by decide +kernel) (by decide) rfl hM hR he rfl rfl hcat dg hcm hsm k
theorem jc_L_48 (F : jF E x RL cc nL d cm sm) {i d' : Nat} {fs : List Value} {a0 : Int32} {r : Int32} (dg : decode cc pc = .ok (.invokevirtual 48, 3)) (hM : jMd (jL x) E yX6_game cX6_game 3 (some .int) d' [.ref (E.1 + i), .int a0] h (some (.int r)) h' 0 0) (he : h[i]? = some (.inr (6, fs))) (hR : d' + 1 ≤ d) (hcm : cells ≤ cm) (hsm : slots ≤ sm) (hcat : (st.map fun v => v.category).sum ≤ 8) (k : jG E x cells slots (pc + 3) lv (.int r :: st) h') : jG E x cells slots pc lv (.int a0 :: .ref (E.1 + i) :: st) h := jG_callV F (y := yX6_game) (n := 1) (As := [.int a0]) (rest := st) (ci := 6) ⟨(jm 832 (by decide +kernel) (by decide +kernel)), (jm 829 (by decide +kernel) (by decide +kernel)), (jm 830 (by decide +kernel) (by decide +kernel)), (jm 831 (by decide +kernel) (by decide +kernel)), (jm 51 (by decide +kernel) (by decide +kernel))⟩ (by decide +kernel) (by decide) rfl hM hR he rfl rfl hcat dg hcm hsm k
theorem jc_L_52 (F : jF E x RL cc nL d cm sm) {i d' : Nat} {fs : List Value} {a0 : Int32} {r : Int32} (dg : decode cc pc = .ok (.invokevirtual 52, 3)) (hM : jMd (jL x) E yX6_score cX6_score 2 (some .int) d' [.ref (E.1 + i), .int a0] h (some (.int r)) h' 0 0) (he : h[i]? = some (.inr (6, fs))) (hR : d' + 1 ≤ d) (hcm : cells ≤ cm) (hsm : slots ≤ sm) (hcat : (st.map fun v => v.category).sum ≤ 8) (k : jG E x cells slots (pc + 3) lv (.int r :: st) h') : jG E x cells slots pc lv (.int a0 :: .ref (E.1 + i) :: st) h := jG_callV F (y := yX6_score) (n := 1) (As := [.int a0]) (rest := st) (ci := 6) ⟨(jm 836 (by decide +kernel) (by decide +kernel)), (jm 833 (by decide +kernel) (by decide +kernel)), (jm 834 (by decide +kernel) (by decide +kernel)), (jm 835 (by decide +kernel) (by decide +kernel)), (jm 51 (by decide +kernel) (by decide +kernel))⟩ (by decide +kernel) (by decide) rfl hM hR he rfl rfl hcat dg hcm hsm k
theorem jc_X6_163 (F : jF E x RX6 cc nL d cm sm) {d' : Nat} {a0 : Int32} {r : Int32} (dg : decode cc pc = .ok (.invokestatic 163, 3)) (hM : jMd (jL x) E yX6_isPlayer cX6_isPlayer 1 (some .boolean) d' [.int a0] h (some (.int r)) h' 0 0) (hR : d' + 1 ≤ d) (hcm : cells ≤ cm) (hsm : slots ≤ sm) (hcat : (st.map fun v => v.category).sum ≤ 8) (k : jG E x cells slots (pc + 3) lv (.int r :: st) h') : jG E x cells slots pc lv (.int a0 :: st) h := jG_callS F (y := yX6_isPlayer) (n := 1) (As := [.int a0]) (rest := st) ⟨(jm 839 (by decide +kernel) (by decide +kernel)), (jm 837 (by decide +kernel) (by decide +kernel)), (jm 838 (by decide +kernel) (by decide +kernel)), (jm 51 (by decide +kernel) (by decide +kernel))⟩ (by decide +kernel) (by decide) hM hR rfl rfl hcat dg hcm hsm k
theorem jc_X6_166 (F : jF E x RX6 cc nL d cm sm) {i d' : Nat} {fs : List Value} {a0 : Int32} {r : Int32} (dg : decode cc pc = .ok (.invokevirtual 166, 3)) (hM : jMd (jL x) E yX6_scoreOf cX6_scoreOf 4 (some .int) d' [.ref (E.1 + i), .int a0] h (some (.int r)) h' 0 0) (he : h[i]? = some (.inr (6, fs))) (hR : d' + 1 ≤ d) (hcm : cells ≤ cm) (hsm : slots ≤ sm) (hcat : (st.map fun v => v.category).sum ≤ 8) (k : jG E x cells slots (pc + 3) lv (.int r :: st) h') : jG E x cells slots pc lv (.int a0 :: .ref (E.1 + i) :: st) h := jG_callV F (y := yX6_scoreOf) (n := 1) (As := [.int a0]) (rest := st) (ci := 6) ⟨(jm 843 (by decide +kernel) (by decide +kernel)), (jm 840 (by decide +kernel) (by decide +kernel)), (jm 842 (by decide +kernel) (by decide +kernel)), (jm 36 (by decide +kernel) (by decide +kernel)), (jm 51 (by decide +kernel) (by decide +kernel))⟩ (by decide +kernel) (by decide) rfl hM hR he rfl rfl hcat dg hcm hsm k
theorem jc_L_56 (F : jF E x RL cc nL d cm sm) {i d' : Nat} {fs : List Value} {a0 : Int32} {r : Int32} (dg : decode cc pc = .ok (.invokevirtual 56, 3)) (hM : jMd (jL x) E yX6_twelfths cX6_twelfths 2 (some .int) d' [.ref (E.1 + i), .int a0] h (some (.int r)) h' 0 0) (he : h[i]? = some (.inr (6, fs))) (hR : d' + 1 ≤ d) (hcm : cells ≤ cm) (hsm : slots ≤ sm) (hcat : (st.map fun v => v.category).sum ≤ 8) (k : jG E x cells slots (pc + 3) lv (.int r :: st) h') : jG E x cells slots pc lv (.int a0 :: .ref (E.1 + i) :: st) h := jG_callV F (y := yX6_twelfths) (n := 1) (As := [.int a0]) (rest := st) (ci := 6) ⟨(jm 847 (by decide +kernel) (by decide +kernel)), (jm 844 (by decide +kernel) (by decide +kernel)), (jm 845 (by decide +kernel) (by decide +kernel)), (jm 846 (by decide +kernel) (by decide +kernel)), (jm 51 (by decide +kernel) (by decide +kernel))⟩ (by decide +kernel) (by decide) rfl hM hR he rfl rfl hcat dg hcm hsm k
theorem jc_X6_172 (F : jF E x RX6 cc nL d cm sm) {i d' : Nat} {fs : List Value} {a0 : Int32} {r : Int32} (dg : decode cc pc = .ok (.invokevirtual 172, 3)) (hM : jMd (jL x) E yX6_twelfthsOf cX6_twelfthsOf 6 (some .int) d' [.ref (E.1 + i), .int a0] h (some (.int r)) h' 0 0) (he : h[i]? = some (.inr (6, fs))) (hR : d' + 1 ≤ d) (hcm : cells ≤ cm) (hsm : slots ≤ sm) (hcat : (st.map fun v => v.category).sum ≤ 8) (k : jG E x cells slots (pc + 3) lv (.int r :: st) h') : jG E x cells slots pc lv (.int a0 :: .ref (E.1 + i) :: st) h := jG_callV F (y := yX6_twelfthsOf) (n := 1) (As := [.int a0]) (rest := st) (ci := 6) ⟨(jm 851 (by decide +kernel) (by decide +kernel)), (jm 848 (by decide +kernel) (by decide +kernel)), (jm 850 (by decide +kernel) (by decide +kernel)), (jm 37 (by decide +kernel) (by decide +kernel)), (jm 51 (by decide +kernel) (by decide +kernel))⟩ (by decide +kernel) (by decide) rfl hM hR he rfl rfl hcat dg hcm hsm k
theorem jc_X6_169 (F : jF E x RX6 cc nL d cm sm) {i d' : Nat} {fs : List Value} {a0 : Int32} {r : Int32} (dg : decode cc pc = .ok (.invokevirtual 169, 3)) (hM : jMd (jL x) E yX6_rank cX6_rank 2 (some .int) d' [.ref (E.1 + i), .int a0] h (some (.int r)) h' 0 0) (he : h[i]? = some (.inr (6, fs))) (hR : d' + 1 ≤ d) (hcm : cells ≤ cm) (hsm : slots ≤ sm) (hcat : (st.map fun v => v.category).sum ≤ 8) (k : jG E x cells slots (pc + 3) lv (.int r :: st) h') : jG E x cells slots pc lv (.int a0 :: .ref (E.1 + i) :: st) h := jG_callV F (y := yX6_rank) (n := 1) (As := [.int a0]) (rest := st) (ci := 6) ⟨(jm 855 (by decide +kernel) (by decide +kernel)), (jm 852 (by decide +kernel) (by decide +kernel)), (jm 854 (by decide +kernel) (by decide +kernel)), (jm 38 (by decide +kernel) (by decide +kernel)), (jm 51 (by decide +kernel) (by decide +kernel))⟩ (by decide +kernel) (by decide) rfl hM hR he rfl rfl hcat dg hcm hsm k
theorem jc_L_60 (F : jF E x RL cc nL d cm sm) {i d' : Nat} {fs : List Value} {a0 : Int32} {r : Int32} (dg : decode cc pc = .ok (.invokevirtual 60, 3)) (hM : jMd (jL x) E yX6_points cX6_points 4 (some .int) d' [.ref (E.1 + i), .int a0] h (some (.int r)) h' 0 0) (he : h[i]? = some (.inr (6, fs))) (hR : d' + 1 ≤ d) (hcm : cells ≤ cm) (hsm : slots ≤ sm) (hcat : (st.map fun v => v.category).sum ≤ 8) (k : jG E x cells slots (pc + 3) lv (.int r :: st) h') : jG E x cells slots pc lv (.int a0 :: .ref (E.1 + i) :: st) h := jG_callV F (y := yX6_points) (n := 1) (As := [.int a0]) (rest := st) (ci := 6) ⟨(jm 859 (by decide +kernel) (by decide +kernel)), (jm 856 (by decide +kernel) (by decide +kernel)), (jm 857 (by decide +kernel) (by decide +kernel)), (jm 858 (by decide +kernel) (by decide +kernel)), (jm 51 (by decide +kernel) (by decide +kernel))⟩ (by decide +kernel) (by decide) rfl hM hR he rfl rfl hcat dg hcm hsm k
theorem jc_L_64 (F : jF E x RL cc nL d cm sm) {i d' : Nat} {fs : List Value} {a0 : Int32} {a1 : Int32} {r : Int32} (dg : decode cc pc = .ok (.invokevirtual 64, 3)) (hM : jMd (jL x) E yX6_chance cX6_chance 3 (some .int) d' [.ref (E.1 + i), .int a0, .int a1] h (some (.int r)) h' 0 0) (he : h[i]? = some (.inr (6, fs))) (hR : d' + 1 ≤ d) (hcm : cells ≤ cm) (hsm : slots ≤ sm) (hcat : (st.map fun v => v.category).sum ≤ 8) (k : jG E x cells slots (pc + 3) lv (.int r :: st) h') : jG E x cells slots pc lv (.int a1 :: .int a0 :: .ref (E.1 + i) :: st) h := jG_callV F (y := yX6_chance) (n := 2) (As := [.int a0, .int a1]) (rest := st) (ci := 6) ⟨(jm 863 (by decide +kernel) (by decide +kernel)), (jm 860 (by decide +kernel) (by decide +kernel)), (jm 861 (by decide +kernel) (by decide +kernel)), (jm 862 (by decide +kernel) (by decide +kernel)), (jm 51 (by decide +kernel) (by decide +kernel))⟩ (by decide +kernel) (by decide) rfl hM hR he rfl rfl hcat dg hcm hsm k
theorem jc_X6_175 (F : jF E x RX6 cc nL d cm sm) {i d' : Nat} {fs : List Value} {a0 : Int32} {a1 : Int32} {r : Int32} (dg : decode cc pc = .ok (.invokevirtual 175, 3)) (hM : jMd (jL x) E yX6_chanceOf cX6_chanceOf 7 (some .int) d' [.ref (E.1 + i), .int a0, .int a1] h (some (.int r)) h' 0 0) (he : h[i]? = some (.inr (6, fs))) (hR : d' + 1 ≤ d) (hcm : cells ≤ cm) (hsm : slots ≤ sm) (hcat : (st.map fun v => v.category).sum ≤ 8) (k : jG E x cells slots (pc + 3) lv (.int r :: st) h') : jG E x cells slots pc lv (.int a1 :: .int a0 :: .ref (E.1 + i) :: st) h := jG_callV F (y := yX6_chanceOf) (n := 2) (As := [.int a0, .int a1]) (rest := st) (ci := 6) ⟨(jm 867 (by decide +kernel) (by decide +kernel)), (jm 864 (by decide +kernel) (by decide +kernel)), (jm 866 (by decide +kernel) (by decide +kernel)), (jm 39 (by decide +kernel) (by decide +kernel)), (jm 51 (by decide +kernel) (by decide +kernel))⟩ (by decide +kernel) (by decide) rfl hM hR he rfl rfl hcat dg hcm hsm k
theorem jc_L_68 (F : jF E x RL cc nL d cm sm) {i d' : Nat} {fs : List Value} {a0 : Int32} {a1 : Int32} {r : Int32} (dg : decode cc pc = .ok (.invokevirtual 68, 3)) (hM : jMd (jL x) E yX6_best cX6_best 3 (some .int) d' [.ref (E.1 + i), .int a0, .int a1] h (some (.int r)) h' 0 0) (he : h[i]? = some (.inr (6, fs))) (hR : d' + 1 ≤ d) (hcm : cells ≤ cm) (hsm : slots ≤ sm) (hcat : (st.map fun v => v.category).sum ≤ 8) (k : jG E x cells slots (pc + 3) lv (.int r :: st) h') : jG E x cells slots pc lv (.int a1 :: .int a0 :: .ref (E.1 + i) :: st) h := jG_callV F (y := yX6_best) (n := 2) (As := [.int a0, .int a1]) (rest := st) (ci := 6) ⟨(jm 871 (by decide +kernel) (by decide +kernel)), (jm 868 (by decide +kernel) (by decide +kernel)), (jm 869 (by decide +kernel) (by decide +kernel)), (jm 870 (by decide +kernel) (by decide +kernel)), (jm 51 (by decide +kernel) (by decide +kernel))⟩ (by decide +kernel) (by decide) rfl hM hR he rfl rfl hcat dg hcm hsm k
theorem jc_X6_192 (F : jF E x RX6 cc nL d cm sm) {i d' : Nat} {fs : List Value} {a0 : Int32}  (dg : decode cc pc = .ok (.invokevirtual 192, 3)) (hM : jMd (jL x) E yX6_layBest cX6_layBest 5 none d' [.ref (E.1 + i), .int a0] h none h' 0 0) (he : h[i]? = some (.inr (6, fs))) (hR : d' + 1 ≤ d) (hcm : cells ≤ cm) (hsm : slots ≤ sm) (hcat : (st.map fun v => v.category).sum ≤ 8) (k : jG E x cells slots (pc + 3) lv (st) h') : jG E x cells slots pc lv (.int a0 :: .ref (E.1 + i) :: st) h := jG_callV F (y := yX6_layBest) (n := 1) (As := [.int a0]) (rest := st) (ci := 6) ⟨(jm 875 (by decide +kernel) (by decide +kernel)), (jm 872 (by decide +kernel) (by decide +kernel)), (jm 874 (by decide +kernel) (by decide +kernel)), (jm 40 (by decide +kernel) (by decide +kernel)), (jm 51 (by decide +kernel) (by decide +kernel))⟩ (by decide +kernel) (by decide) rfl hM hR he rfl rfl hcat dg hcm hsm k
theorem jc_X6_186 (F : jF E x RX6 cc nL d cm sm) {i d' : Nat} {fs : List Value} {a0 : Int32} {a1 : Int32} {r : Int32} (dg : decode cc pc = .ok (.invokevirtual 186, 3)) (hM : jMd (jL x) E yX6_gainOf cX6_gainOf 5 (some .int) d' [.ref (E.1 + i), .int a0, .int a1] h (some (.int r)) h' 0 0) (he : h[i]? = some (.inr (6, fs))) (hR : d' + 1 ≤ d) (hcm : cells ≤ cm) (hsm : slots ≤ sm) (hcat : (st.map fun v => v.category).sum ≤ 8) (k : jG E x cells slots (pc + 3) lv (.int r :: st) h') : jG E x cells slots pc lv (.int a1 :: .int a0 :: .ref (E.1 + i) :: st) h := jG_callV F (y := yX6_gainOf) (n := 2) (As := [.int a0, .int a1]) (rest := st) (ci := 6) ⟨(jm 879 (by decide +kernel) (by decide +kernel)), (jm 876 (by decide +kernel) (by decide +kernel)), (jm 878 (by decide +kernel) (by decide +kernel)), (jm 41 (by decide +kernel) (by decide +kernel)), (jm 51 (by decide +kernel) (by decide +kernel))⟩ (by decide +kernel) (by decide) rfl hM hR he rfl rfl hcat dg hcm hsm k
theorem jc_L_72 (F : jF E x RL cc nL d cm sm) {i d' : Nat} {fs : List Value}  {r : Int32} (dg : decode cc pc = .ok (.invokevirtual 72, 3)) (hM : jMd (jL x) E yX6_ahead cX6_ahead 3 (some .int) d' [.ref (E.1 + i)] h (some (.int r)) h' 0 0) (he : h[i]? = some (.inr (6, fs))) (hR : d' + 1 ≤ d) (hcm : cells ≤ cm) (hsm : slots ≤ sm) (hcat : (st.map fun v => v.category).sum ≤ 8) (k : jG E x cells slots (pc + 3) lv (.int r :: st) h') : jG E x cells slots pc lv (.ref (E.1 + i) :: st) h := jG_callV F (y := yX6_ahead) (n := 0) (As := []) (rest := st) (ci := 6) ⟨(jm 883 (by decide +kernel) (by decide +kernel)), (jm 880 (by decide +kernel) (by decide +kernel)), (jm 881 (by decide +kernel) (by decide +kernel)), (jm 882 (by decide +kernel) (by decide +kernel)), (jm 51 (by decide +kernel) (by decide +kernel))⟩ (by decide +kernel) (by decide) rfl hM hR he rfl rfl hcat dg hcm hsm k
theorem jc_L_76 (F : jF E x RL cc nL d cm sm) {i d' : Nat} {fs : List Value} {a0 : Int32} {a1 : Int32} {a2 : Int32} {r : Int32} (dg : decode cc pc = .ok (.invokevirtual 76, 3)) (hM : jMd (jL x) E yX6_write cX6_write 4 (some .int) d' [.ref (E.1 + i), .int a0, .int a1, .int a2] h (some (.int r)) h' 0 0) (he : h[i]? = some (.inr (6, fs))) (hR : d' + 1 ≤ d) (hcm : cells ≤ cm) (hsm : slots ≤ sm) (hcat : (st.map fun v => v.category).sum ≤ 8) (k : jG E x cells slots (pc + 3) lv (.int r :: st) h') : jG E x cells slots pc lv (.int a2 :: .int a1 :: .int a0 :: .ref (E.1 + i) :: st) h := jG_callV F (y := yX6_write) (n := 3) (As := [.int a0, .int a1, .int a2]) (rest := st) (ci := 6) ⟨(jm 887 (by decide +kernel) (by decide +kernel)), (jm 884 (by decide +kernel) (by decide +kernel)), (jm 885 (by decide +kernel) (by decide +kernel)), (jm 886 (by decide +kernel) (by decide +kernel)), (jm 51 (by decide +kernel) (by decide +kernel))⟩ (by decide +kernel) (by decide) rfl hM hR he rfl rfl hcat dg hcm hsm k
theorem jc_L_80 (F : jF E x RL cc nL d cm sm) {i d' : Nat} {fs : List Value}  {r : Int32} (dg : decode cc pc = .ok (.invokevirtual 80, 3)) (hM : jMd (jL x) E yX6_wipe cX6_wipe 2 (some .int) d' [.ref (E.1 + i)] h (some (.int r)) h' 0 0) (he : h[i]? = some (.inr (6, fs))) (hR : d' + 1 ≤ d) (hcm : cells ≤ cm) (hsm : slots ≤ sm) (hcat : (st.map fun v => v.category).sum ≤ 8) (k : jG E x cells slots (pc + 3) lv (.int r :: st) h') : jG E x cells slots pc lv (.ref (E.1 + i) :: st) h := jG_callV F (y := yX6_wipe) (n := 0) (As := []) (rest := st) (ci := 6) ⟨(jm 891 (by decide +kernel) (by decide +kernel)), (jm 888 (by decide +kernel) (by decide +kernel)), (jm 889 (by decide +kernel) (by decide +kernel)), (jm 890 (by decide +kernel) (by decide +kernel)), (jm 51 (by decide +kernel) (by decide +kernel))⟩ (by decide +kernel) (by decide) rfl hM hR he rfl rfl hcat dg hcm hsm k
theorem jc_L_84 (F : jF E x RL cc nL d cm sm) {i d' : Nat} {fs : List Value}  {r : Int32} (dg : decode cc pc = .ok (.invokevirtual 84, 3)) (hM : jMd (jL x) E yX6_wrong cX6_wrong 1 (some .int) d' [.ref (E.1 + i)] h (some (.int r)) h' 0 0) (he : h[i]? = some (.inr (6, fs))) (hR : d' + 1 ≤ d) (hcm : cells ≤ cm) (hsm : slots ≤ sm) (hcat : (st.map fun v => v.category).sum ≤ 8) (k : jG E x cells slots (pc + 3) lv (.int r :: st) h') : jG E x cells slots pc lv (.ref (E.1 + i) :: st) h := jG_callV F (y := yX6_wrong) (n := 0) (As := []) (rest := st) (ci := 6) ⟨(jm 895 (by decide +kernel) (by decide +kernel)), (jm 892 (by decide +kernel) (by decide +kernel)), (jm 893 (by decide +kernel) (by decide +kernel)), (jm 894 (by decide +kernel) (by decide +kernel)), (jm 51 (by decide +kernel) (by decide +kernel))⟩ (by decide +kernel) (by decide) rfl hM hR he rfl rfl hcat dg hcm hsm k
theorem jc_X6_199 (F : jF E x RX6 cc nL d cm sm) {i d' : Nat} {fs : List Value} {a0 : Int32} {a1 : Int32} {r : Int32} (dg : decode cc pc = .ok (.invokevirtual 199, 3)) (hM : jMd (jL x) E yX6_wrongWith cX6_wrongWith 8 (some .int) d' [.ref (E.1 + i), .int a0, .int a1] h (some (.int r)) h' 0 0) (he : h[i]? = some (.inr (6, fs))) (hR : d' + 1 ≤ d) (hcm : cells ≤ cm) (hsm : slots ≤ sm) (hcat : (st.map fun v => v.category).sum ≤ 8) (k : jG E x cells slots (pc + 3) lv (.int r :: st) h') : jG E x cells slots pc lv (.int a1 :: .int a0 :: .ref (E.1 + i) :: st) h := jG_callV F (y := yX6_wrongWith) (n := 2) (As := [.int a0, .int a1]) (rest := st) (ci := 6) ⟨(jm 899 (by decide +kernel) (by decide +kernel)), (jm 896 (by decide +kernel) (by decide +kernel)), (jm 898 (by decide +kernel) (by decide +kernel)), (jm 42 (by decide +kernel) (by decide +kernel)), (jm 51 (by decide +kernel) (by decide +kernel))⟩ (by decide +kernel) (by decide) rfl hM hR he rfl rfl hcat dg hcm hsm k
theorem jc_L_88 (F : jF E x RL cc nL d cm sm) {i d' : Nat} {fs : List Value} {a0 : Int32} {r : Int32} (dg : decode cc pc = .ok (.invokevirtual 88, 3)) (hM : jMd (jL x) E yX6_canBe cX6_canBe 7 (some .int) d' [.ref (E.1 + i), .int a0] h (some (.int r)) h' 0 0) (he : h[i]? = some (.inr (6, fs))) (hR : d' + 1 ≤ d) (hcm : cells ≤ cm) (hsm : slots ≤ sm) (hcat : (st.map fun v => v.category).sum ≤ 8) (k : jG E x cells slots (pc + 3) lv (.int r :: st) h') : jG E x cells slots pc lv (.int a0 :: .ref (E.1 + i) :: st) h := jG_callV F (y := yX6_canBe) (n := 1) (As := [.int a0]) (rest := st) (ci := 6) ⟨(jm 903 (by decide +kernel) (by decide +kernel)), (jm 900 (by decide +kernel) (by decide +kernel)), (jm 901 (by decide +kernel) (by decide +kernel)), (jm 902 (by decide +kernel) (by decide +kernel)), (jm 51 (by decide +kernel) (by decide +kernel))⟩ (by decide +kernel) (by decide) rfl hM hR he rfl rfl hcat dg hcm hsm k
theorem jc_L_93 (F : jF E x RL cc nL d cm sm) {i d' : Nat} {fs : List Value} {a0 : Int32} {a1 : Int32} {a2 : Int32} {a3 : Int32} {a4 : Int32} {a5 : Int32} {a6 : Int32} {r : Int32} (dg : decode cc pc = .ok (.invokevirtual 93, 3)) (hM : jMd (jL x) E yX6_seen cX6_seen 9 (some .int) d' [.ref (E.1 + i), .int a0, .int a1, .int a2, .int a3, .int a4, .int a5, .int a6] h (some (.int r)) h' 0 0) (he : h[i]? = some (.inr (6, fs))) (hR : d' + 1 ≤ d) (hcm : cells ≤ cm) (hsm : slots ≤ sm) (hcat : (st.map fun v => v.category).sum ≤ 8) (k : jG E x cells slots (pc + 3) lv (.int r :: st) h') : jG E x cells slots pc lv (.int a6 :: .int a5 :: .int a4 :: .int a3 :: .int a2 :: .int a1 :: .int a0 :: .ref (E.1 + i) :: st) h := jG_callV F (y := yX6_seen) (n := 7) (As := [.int a0, .int a1, .int a2, .int a3, .int a4, .int a5, .int a6]) (rest := st) (ci := 6) ⟨(jm 907 (by decide +kernel) (by decide +kernel)), (jm 904 (by decide +kernel) (by decide +kernel)), (jm 905 (by decide +kernel) (by decide +kernel)), (jm 906 (by decide +kernel) (by decide +kernel)), (jm 51 (by decide +kernel) (by decide +kernel))⟩ (by decide +kernel) (by decide) rfl hM hR he rfl rfl hcat dg hcm hsm k
theorem jc_X6_202 (F : jF E x RX6 cc nL d cm sm) {i d' : Nat} {fs : List Value} {a0 : Int32} {r : Int32} (dg : decode cc pc = .ok (.invokevirtual 202, 3)) (hM : jMd (jL x) E yX6_pairsOf cX6_pairsOf 4 (some .int) d' [.ref (E.1 + i), .int a0] h (some (.int r)) h' 0 0) (he : h[i]? = some (.inr (6, fs))) (hR : d' + 1 ≤ d) (hcm : cells ≤ cm) (hsm : slots ≤ sm) (hcat : (st.map fun v => v.category).sum ≤ 8) (k : jG E x cells slots (pc + 3) lv (.int r :: st) h') : jG E x cells slots pc lv (.int a0 :: .ref (E.1 + i) :: st) h := jG_callV F (y := yX6_pairsOf) (n := 1) (As := [.int a0]) (rest := st) (ci := 6) ⟨(jm 911 (by decide +kernel) (by decide +kernel)), (jm 908 (by decide +kernel) (by decide +kernel)), (jm 910 (by decide +kernel) (by decide +kernel)), (jm 43 (by decide +kernel) (by decide +kernel)), (jm 51 (by decide +kernel) (by decide +kernel))⟩ (by decide +kernel) (by decide) rfl hM hR he rfl rfl hcat dg hcm hsm k
theorem jc_L_97 (F : jF E x RL cc nL d cm sm) {i d' : Nat} {fs : List Value} {a0 : Int32} {a1 : Int32} {a2 : Int32} {r : Int32} (dg : decode cc pc = .ok (.invokevirtual 97, 3)) (hM : jMd (jL x) E yX6_scatter cX6_scatter 9 (some .int) d' [.ref (E.1 + i), .int a0, .int a1, .int a2] h (some (.int r)) h' 0 0) (he : h[i]? = some (.inr (6, fs))) (hR : d' + 1 ≤ d) (hcm : cells ≤ cm) (hsm : slots ≤ sm) (hcat : (st.map fun v => v.category).sum ≤ 8) (k : jG E x cells slots (pc + 3) lv (.int r :: st) h') : jG E x cells slots pc lv (.int a2 :: .int a1 :: .int a0 :: .ref (E.1 + i) :: st) h := jG_callV F (y := yX6_scatter) (n := 3) (As := [.int a0, .int a1, .int a2]) (rest := st) (ci := 6) ⟨(jm 915 (by decide +kernel) (by decide +kernel)), (jm 912 (by decide +kernel) (by decide +kernel)), (jm 913 (by decide +kernel) (by decide +kernel)), (jm 914 (by decide +kernel) (by decide +kernel)), (jm 51 (by decide +kernel) (by decide +kernel))⟩ (by decide +kernel) (by decide) rfl hM hR he rfl rfl hcat dg hcm hsm k
theorem jc_L_101 (F : jF E x RL cc nL d cm sm) {i d' : Nat} {fs : List Value}  {r : Int32} (dg : decode cc pc = .ok (.invokevirtual 101, 3)) (hM : jMd (jL x) E yX6_keep cX6_keep 2 (some .int) d' [.ref (E.1 + i)] h (some (.int r)) h' 0 0) (he : h[i]? = some (.inr (6, fs))) (hR : d' + 1 ≤ d) (hcm : cells ≤ cm) (hsm : slots ≤ sm) (hcat : (st.map fun v => v.category).sum ≤ 8) (k : jG E x cells slots (pc + 3) lv (.int r :: st) h') : jG E x cells slots pc lv (.ref (E.1 + i) :: st) h := jG_callV F (y := yX6_keep) (n := 0) (As := []) (rest := st) (ci := 6) ⟨(jm 919 (by decide +kernel) (by decide +kernel)), (jm 916 (by decide +kernel) (by decide +kernel)), (jm 917 (by decide +kernel) (by decide +kernel)), (jm 918 (by decide +kernel) (by decide +kernel)), (jm 51 (by decide +kernel) (by decide +kernel))⟩ (by decide +kernel) (by decide) rfl hM hR he rfl rfl hcat dg hcm hsm k
theorem jc_L_105 (F : jF E x RL cc nL d cm sm) {i d' : Nat} {fs : List Value}  {r : Int32} (dg : decode cc pc = .ok (.invokevirtual 105, 3)) (hM : jMd (jL x) E yX6_back cX6_back 2 (some .int) d' [.ref (E.1 + i)] h (some (.int r)) h' 0 0) (he : h[i]? = some (.inr (6, fs))) (hR : d' + 1 ≤ d) (hcm : cells ≤ cm) (hsm : slots ≤ sm) (hcat : (st.map fun v => v.category).sum ≤ 8) (k : jG E x cells slots (pc + 3) lv (.int r :: st) h') : jG E x cells slots pc lv (.ref (E.1 + i) :: st) h := jG_callV F (y := yX6_back) (n := 0) (As := []) (rest := st) (ci := 6) ⟨(jm 923 (by decide +kernel) (by decide +kernel)), (jm 920 (by decide +kernel) (by decide +kernel)), (jm 921 (by decide +kernel) (by decide +kernel)), (jm 922 (by decide +kernel) (by decide +kernel)), (jm 51 (by decide +kernel) (by decide +kernel))⟩ (by decide +kernel) (by decide) rfl hM hR he rfl rfl hcat dg hcm hsm k
theorem jc_L_109 (F : jF E x RL cc nL d cm sm) {i d' : Nat} {fs : List Value} {a0 : Int32} {r : Int32} (dg : decode cc pc = .ok (.invokevirtual 109, 3)) (hM : jMd (jL x) E yX6_count cX6_count 4 (some .int) d' [.ref (E.1 + i), .int a0] h (some (.int r)) h' 0 0) (he : h[i]? = some (.inr (6, fs))) (hR : d' + 1 ≤ d) (hcm : cells ≤ cm) (hsm : slots ≤ sm) (hcat : (st.map fun v => v.category).sum ≤ 8) (k : jG E x cells slots (pc + 3) lv (.int r :: st) h') : jG E x cells slots pc lv (.int a0 :: .ref (E.1 + i) :: st) h := jG_callV F (y := yX6_count) (n := 1) (As := [.int a0]) (rest := st) (ci := 6) ⟨(jm 927 (by decide +kernel) (by decide +kernel)), (jm 924 (by decide +kernel) (by decide +kernel)), (jm 925 (by decide +kernel) (by decide +kernel)), (jm 926 (by decide +kernel) (by decide +kernel)), (jm 51 (by decide +kernel) (by decide +kernel))⟩ (by decide +kernel) (by decide) rfl hM hR he rfl rfl hcat dg hcm hsm k
theorem jc_X5_9 (F : jF E x RX5 cc nL d cm sm) {b0 d' : Nat} {mc ms : Nat}   (dg : decode cc pc = .ok (.invokespecial 9, 3)) (hM : jMd (jL x) E yX2_init cX2_init 1 none d' [.ref b0] h none h' mc ms) (hR : d' + 1 ≤ d) (hcm : cells + mc ≤ cm) (hsm : slots + ms ≤ sm) (hcat : (st.map fun v => v.category).sum ≤ 8) (k : jG E x (cells + mc) (slots + ms) (pc + 3) lv (st) h') : jG E x cells slots pc lv (.ref b0 :: st) h := jG_callIN (host := "JumpDiscs") F (y := yX2_init) (n := 0) (As := []) (rest := st) ⟨(jm 67 (by decide +kernel) (by decide +kernel)), (jmn 65 (by decide +kernel) (by decide +kernel)), (jm 66 (by decide +kernel) (by decide +kernel)), (jm 46 (by decide +kernel) (by decide +kernel))⟩ rfl (by decide +kernel) (by decide) hM hR rfl rfl hcat dg hcm hsm k
theorem jc_X1_51 (F : jF E x RX1 cc nL d cm sm) {d' : Nat} {a0 : Int32} {r : Int32} (dg : decode cc pc = .ok (.invokestatic 51, 3)) (hM : jMd (jL x) E yX5_playerOf cX5_playerOf 1 (some .int) d' [.int a0] h (some (.int r)) h' 0 0) (hR : d' + 1 ≤ d) (hcm : cells ≤ cm) (hsm : slots ≤ sm) (hcat : (st.map fun v => v.category).sum ≤ 8) (k : jG E x cells slots (pc + 3) lv (.int r :: st) h') : jG E x cells slots pc lv (.int a0 :: st) h := jG_callSN (host := "JumpDiscs") F (y := yX5_playerOf) (n := 1) (As := [.int a0]) (rest := st) ⟨(jm 95 (by decide +kernel) (by decide +kernel)), (jmn 93 (by decide +kernel) (by decide +kernel)), (jm 94 (by decide +kernel) (by decide +kernel)), (jm 45 (by decide +kernel) (by decide +kernel))⟩ (by decide +kernel) (by decide) hM hR rfl rfl hcat dg hcm hsm k
theorem jc_X1_66 (F : jF E x RX1 cc nL d cm sm) {d' : Nat} {a0 : Int32} {r : Int32} (dg : decode cc pc = .ok (.invokestatic 66, 3)) (hM : jMd (jL x) E yX5_sizeOf cX5_sizeOf 1 (some .int) d' [.int a0] h (some (.int r)) h' 0 0) (hR : d' + 1 ≤ d) (hcm : cells ≤ cm) (hsm : slots ≤ sm) (hcat : (st.map fun v => v.category).sum ≤ 8) (k : jG E x cells slots (pc + 3) lv (.int r :: st) h') : jG E x cells slots pc lv (.int a0 :: st) h := jG_callSN (host := "JumpDiscs") F (y := yX5_sizeOf) (n := 1) (As := [.int a0]) (rest := st) ⟨(jm 104 (by decide +kernel) (by decide +kernel)), (jmn 102 (by decide +kernel) (by decide +kernel)), (jm 103 (by decide +kernel) (by decide +kernel)), (jm 45 (by decide +kernel) (by decide +kernel))⟩ (by decide +kernel) (by decide) hM hR rfl rfl hcat dg hcm hsm k
theorem jc_X5_18 (F : jF E x RX5 cc nL d cm sm) {b0 d' : Nat} {mc ms : Nat}   (dg : decode cc pc = .ok (.invokespecial 18, 3)) (hM : jMd (jL x) E yX0_init cX0_init 1 none d' [.ref b0] h none h' mc ms) (hR : d' + 1 ≤ d) (hcm : cells + mc ≤ cm) (hsm : slots + ms ≤ sm) (hcat : (st.map fun v => v.category).sum ≤ 8) (k : jG E x (cells + mc) (slots + ms) (pc + 3) lv (st) h') : jG E x cells slots pc lv (.ref b0 :: st) h := jG_callIN (host := "JumpDiscs") F (y := yX0_init) (n := 0) (As := []) (rest := st) ⟨(jm 170 (by decide +kernel) (by decide +kernel)), (jmn 168 (by decide +kernel) (by decide +kernel)), (jm 169 (by decide +kernel) (by decide +kernel)), (jm 48 (by decide +kernel) (by decide +kernel))⟩ rfl (by decide +kernel) (by decide) hM hR rfl rfl hcat dg hcm hsm k
theorem jc_X5_25 (F : jF E x RX5 cc nL d cm sm) {b0 d' : Nat} {mc ms : Nat}   (dg : decode cc pc = .ok (.invokespecial 25, 3)) (hM : jMd (jL x) E yX3_init cX3_init 1 none d' [.ref b0] h none h' mc ms) (hR : d' + 1 ≤ d) (hcm : cells + mc ≤ cm) (hsm : slots + ms ≤ sm) (hcat : (st.map fun v => v.category).sum ≤ 8) (k : jG E x (cells + mc) (slots + ms) (pc + 3) lv (st) h') : jG E x cells slots pc lv (.ref b0 :: st) h := jG_callIN (host := "JumpDiscs") F (y := yX3_init) (n := 0) (As := []) (rest := st) ⟨(jm 188 (by decide +kernel) (by decide +kernel)), (jmn 186 (by decide +kernel) (by decide +kernel)), (jm 187 (by decide +kernel) (by decide +kernel)), (jm 49 (by decide +kernel) (by decide +kernel))⟩ rfl (by decide +kernel) (by decide) hM hR rfl rfl hcat dg hcm hsm k
theorem jc_X3_36 (F : jF E x RX3 cc nL d cm sm) {b0 d' : Nat} {mc ms : Nat}   (dg : decode cc pc = .ok (.invokespecial 36, 3)) (hM : jMd (jL x) E yX2_init cX2_init 1 none d' [.ref b0] h none h' mc ms) (hR : d' + 1 ≤ d) (hcm : cells + mc ≤ cm) (hsm : slots + ms ≤ sm) (hcat : (st.map fun v => v.category).sum ≤ 8) (k : jG E x (cells + mc) (slots + ms) (pc + 3) lv (st) h') : jG E x cells slots pc lv (.ref b0 :: st) h := jG_callIN (host := "JumpDiscs") F (y := yX2_init) (n := 0) (As := []) (rest := st) ⟨(jm 67 (by decide +kernel) (by decide +kernel)), (jmn 191 (by decide +kernel) (by decide +kernel)), (jm 66 (by decide +kernel) (by decide +kernel)), (jm 46 (by decide +kernel) (by decide +kernel))⟩ rfl (by decide +kernel) (by decide) hM hR rfl rfl hcat dg hcm hsm k
theorem jc_X5_32 (F : jF E x RX5 cc nL d cm sm) {b0 d' : Nat} {mc ms : Nat}   (dg : decode cc pc = .ok (.invokespecial 32, 3)) (hM : jMd (jL x) E yX4_init cX4_init 1 none d' [.ref b0] h none h' mc ms) (hR : d' + 1 ≤ d) (hcm : cells + mc ≤ cm) (hsm : slots + ms ≤ sm) (hcat : (st.map fun v => v.category).sum ≤ 8) (k : jG E x (cells + mc) (slots + ms) (pc + 3) lv (st) h') : jG E x cells slots pc lv (.ref b0 :: st) h := jG_callIN (host := "JumpDiscs") F (y := yX4_init) (n := 0) (As := []) (rest := st) ⟨(jm 227 (by decide +kernel) (by decide +kernel)), (jmn 225 (by decide +kernel) (by decide +kernel)), (jm 226 (by decide +kernel) (by decide +kernel)), (jm 50 (by decide +kernel) (by decide +kernel))⟩ rfl (by decide +kernel) (by decide) hM hR rfl rfl hcat dg hcm hsm k
theorem jc_X2_58 (F : jF E x RX2 cc nL d cm sm) {d' : Nat} {a0 : Int32} {r : Int32} (dg : decode cc pc = .ok (.invokestatic 58, 3)) (hM : jMd (jL x) E yX5_playerOf cX5_playerOf 1 (some .int) d' [.int a0] h (some (.int r)) h' 0 0) (hR : d' + 1 ≤ d) (hcm : cells ≤ cm) (hsm : slots ≤ sm) (hcat : (st.map fun v => v.category).sum ≤ 8) (k : jG E x cells slots (pc + 3) lv (.int r :: st) h') : jG E x cells slots pc lv (.int a0 :: st) h := jG_callSN (host := "JumpDiscs") F (y := yX5_playerOf) (n := 1) (As := [.int a0]) (rest := st) ⟨(jm 95 (by decide +kernel) (by decide +kernel)), (jmn 363 (by decide +kernel) (by decide +kernel)), (jm 94 (by decide +kernel) (by decide +kernel)), (jm 45 (by decide +kernel) (by decide +kernel))⟩ (by decide +kernel) (by decide) hM hR rfl rfl hcat dg hcm hsm k
theorem jc_X2_76 (F : jF E x RX2 cc nL d cm sm) {d' : Nat} {a0 : Int32} {a1 : Int32} {a2 : Int32} {a3 : Int32} {r : Int32} (dg : decode cc pc = .ok (.invokestatic 76, 3)) (hM : jMd (jL x) E yX5_wayBetween cX5_wayBetween 4 (some .int) d' [.int a0, .int a1, .int a2, .int a3] h (some (.int r)) h' 0 0) (hR : d' + 1 ≤ d) (hcm : cells ≤ cm) (hsm : slots ≤ sm) (hcat : (st.map fun v => v.category).sum ≤ 8) (k : jG E x cells slots (pc + 3) lv (.int r :: st) h') : jG E x cells slots pc lv (.int a3 :: .int a2 :: .int a1 :: .int a0 :: st) h := jG_callSN (host := "JumpDiscs") F (y := yX5_wayBetween) (n := 4) (As := [.int a0, .int a1, .int a2, .int a3]) (rest := st) ⟨(jm 371 (by decide +kernel) (by decide +kernel)), (jmn 369 (by decide +kernel) (by decide +kernel)), (jm 370 (by decide +kernel) (by decide +kernel)), (jm 45 (by decide +kernel) (by decide +kernel))⟩ (by decide +kernel) (by decide) hM hR rfl rfl hcat dg hcm hsm k
theorem jc_X2_80 (F : jF E x RX2 cc nL d cm sm) {d' : Nat} {a0 : Int32} {r : Int32} (dg : decode cc pc = .ok (.invokestatic 80, 3)) (hM : jMd (jL x) E yX5_sizeOf cX5_sizeOf 1 (some .int) d' [.int a0] h (some (.int r)) h' 0 0) (hR : d' + 1 ≤ d) (hcm : cells ≤ cm) (hsm : slots ≤ sm) (hcat : (st.map fun v => v.category).sum ≤ 8) (k : jG E x cells slots (pc + 3) lv (.int r :: st) h') : jG E x cells slots pc lv (.int a0 :: st) h := jG_callSN (host := "JumpDiscs") F (y := yX5_sizeOf) (n := 1) (As := [.int a0]) (rest := st) ⟨(jm 104 (by decide +kernel) (by decide +kernel)), (jmn 378 (by decide +kernel) (by decide +kernel)), (jm 103 (by decide +kernel) (by decide +kernel)), (jm 45 (by decide +kernel) (by decide +kernel))⟩ (by decide +kernel) (by decide) hM hR rfl rfl hcat dg hcm hsm k
theorem jc_X0_62 (F : jF E x RX0 cc nL d cm sm) {d' : Nat} {a0 : Int32} {a1 : Int32} {a2 : Int32} {a3 : Int32} {r : Int32} (dg : decode cc pc = .ok (.invokestatic 62, 3)) (hM : jMd (jL x) E yX5_wayBetween cX5_wayBetween 4 (some .int) d' [.int a0, .int a1, .int a2, .int a3] h (some (.int r)) h' 0 0) (hR : d' + 1 ≤ d) (hcm : cells ≤ cm) (hsm : slots ≤ sm) (hcat : (st.map fun v => v.category).sum ≤ 8) (k : jG E x cells slots (pc + 3) lv (.int r :: st) h') : jG E x cells slots pc lv (.int a3 :: .int a2 :: .int a1 :: .int a0 :: st) h := jG_callSN (host := "JumpDiscs") F (y := yX5_wayBetween) (n := 4) (As := [.int a0, .int a1, .int a2, .int a3]) (rest := st) ⟨(jm 371 (by decide +kernel) (by decide +kernel)), (jmn 472 (by decide +kernel) (by decide +kernel)), (jm 370 (by decide +kernel) (by decide +kernel)), (jm 45 (by decide +kernel) (by decide +kernel))⟩ (by decide +kernel) (by decide) hM hR rfl rfl hcat dg hcm hsm k
theorem jc_X3_64 (F : jF E x RX3 cc nL d cm sm) {d' : Nat} {a0 : Int32} {a1 : Int32} {a2 : Int32} {a3 : Int32} {r : Int32} (dg : decode cc pc = .ok (.invokestatic 64, 3)) (hM : jMd (jL x) E yX5_wayBetween cX5_wayBetween 4 (some .int) d' [.int a0, .int a1, .int a2, .int a3] h (some (.int r)) h' 0 0) (hR : d' + 1 ≤ d) (hcm : cells ≤ cm) (hsm : slots ≤ sm) (hcat : (st.map fun v => v.category).sum ≤ 8) (k : jG E x cells slots (pc + 3) lv (.int r :: st) h') : jG E x cells slots pc lv (.int a3 :: .int a2 :: .int a1 :: .int a0 :: st) h := jG_callSN (host := "JumpDiscs") F (y := yX5_wayBetween) (n := 4) (As := [.int a0, .int a1, .int a2, .int a3]) (rest := st) ⟨(jm 371 (by decide +kernel) (by decide +kernel)), (jmn 579 (by decide +kernel) (by decide +kernel)), (jm 370 (by decide +kernel) (by decide +kernel)), (jm 45 (by decide +kernel) (by decide +kernel))⟩ (by decide +kernel) (by decide) hM hR rfl rfl hcat dg hcm hsm k
end JS
end
section
/-! ===== stores and counts by the shape of the locals; arrays by natural places; returns ===== -/
section JN
variable {E : jE} {x : jX} {own : String} {cc : ByteArray} {nL d cm sm cells slots pc : Nat} {st : List Value} {h h' : List va_E}
theorem jG_istore_n_0e (F : jF E x own cc nL d cm sm)  {w : Value} {r : List Value} {v : Int32} (dg : decode cc pc = .ok (.istore_n 0, 1)) (hn : 0 < nL) (k : jG E x cells slots (pc + 1) (.int v :: r) st h) : jG E x cells slots pc (w :: r) (.int v :: st) h := jG_istore_n F dg (by simp) hn (by simpa [jset] using k)
theorem jG_istore_n_0n (F : jF E x own cc nL d cm sm)  {v : Int32} (dg : decode cc pc = .ok (.istore_n 0, 1)) (hn : 0 < nL) (k : jG E x cells slots (pc + 1) [.int v] st h) : jG E x cells slots pc [] (.int v :: st) h := jG_istore_n F dg (by simp) hn (by simpa [jset] using k)
theorem jG_astore_n_0e (F : jF E x own cc nL d cm sm)  {w : Value} {r : List Value} {v : Nat} (dg : decode cc pc = .ok (.astore_n 0, 1)) (hn : 0 < nL) (k : jG E x cells slots (pc + 1) (.ref v :: r) st h) : jG E x cells slots pc (w :: r) (.ref v :: st) h := jG_astore_n F dg (by simp) hn (by simpa [jset] using k)
theorem jG_astore_n_0n (F : jF E x own cc nL d cm sm)  {v : Nat} (dg : decode cc pc = .ok (.astore_n 0, 1)) (hn : 0 < nL) (k : jG E x cells slots (pc + 1) [.ref v] st h) : jG E x cells slots pc [] (.ref v :: st) h := jG_astore_n F dg (by simp) hn (by simpa [jset] using k)
theorem jG_iinc_0 (F : jF E x own cc nL d cm sm)  {r : List Value} {n : Int} {v w : Int32} (dg : decode cc pc = .ok (.iinc 0 n, 3)) (hw : v + Int32.ofInt n = w) (hn : 0 < nL) (k : jG E x cells slots (pc + 3) (.int w :: r) st h) : jG E x cells slots pc (.int v :: r) st h := jG_iinc F dg (by simp) hw hn (by simpa [jset] using k)
theorem jG_istore_n_1e (F : jF E x own cc nL d cm sm) {b0 : Value} {w : Value} {r : List Value} {v : Int32} (dg : decode cc pc = .ok (.istore_n 1, 1)) (hn : 1 < nL) (k : jG E x cells slots (pc + 1) (b0 :: .int v :: r) st h) : jG E x cells slots pc (b0 :: w :: r) (.int v :: st) h := jG_istore_n F dg (by simp) hn (by simpa [jset] using k)
theorem jG_istore_n_1n (F : jF E x own cc nL d cm sm) {b0 : Value} {v : Int32} (dg : decode cc pc = .ok (.istore_n 1, 1)) (hn : 1 < nL) (k : jG E x cells slots (pc + 1) [b0, .int v] st h) : jG E x cells slots pc [b0] (.int v :: st) h := jG_istore_n F dg (by simp) hn (by simpa [jset] using k)
theorem jG_astore_n_1e (F : jF E x own cc nL d cm sm) {b0 : Value} {w : Value} {r : List Value} {v : Nat} (dg : decode cc pc = .ok (.astore_n 1, 1)) (hn : 1 < nL) (k : jG E x cells slots (pc + 1) (b0 :: .ref v :: r) st h) : jG E x cells slots pc (b0 :: w :: r) (.ref v :: st) h := jG_astore_n F dg (by simp) hn (by simpa [jset] using k)
theorem jG_astore_n_1n (F : jF E x own cc nL d cm sm) {b0 : Value} {v : Nat} (dg : decode cc pc = .ok (.astore_n 1, 1)) (hn : 1 < nL) (k : jG E x cells slots (pc + 1) [b0, .ref v] st h) : jG E x cells slots pc [b0] (.ref v :: st) h := jG_astore_n F dg (by simp) hn (by simpa [jset] using k)
theorem jG_iinc_1 (F : jF E x own cc nL d cm sm) {b0 : Value} {r : List Value} {n : Int} {v w : Int32} (dg : decode cc pc = .ok (.iinc 1 n, 3)) (hw : v + Int32.ofInt n = w) (hn : 1 < nL) (k : jG E x cells slots (pc + 3) (b0 :: .int w :: r) st h) : jG E x cells slots pc (b0 :: .int v :: r) st h := jG_iinc F dg (by simp) hw hn (by simpa [jset] using k)
theorem jG_istore_n_2e (F : jF E x own cc nL d cm sm) {b0 b1 : Value} {w : Value} {r : List Value} {v : Int32} (dg : decode cc pc = .ok (.istore_n 2, 1)) (hn : 2 < nL) (k : jG E x cells slots (pc + 1) (b0 :: b1 :: .int v :: r) st h) : jG E x cells slots pc (b0 :: b1 :: w :: r) (.int v :: st) h := jG_istore_n F dg (by simp) hn (by simpa [jset] using k)
theorem jG_istore_n_2n (F : jF E x own cc nL d cm sm) {b0 b1 : Value} {v : Int32} (dg : decode cc pc = .ok (.istore_n 2, 1)) (hn : 2 < nL) (k : jG E x cells slots (pc + 1) [b0, b1, .int v] st h) : jG E x cells slots pc [b0, b1] (.int v :: st) h := jG_istore_n F dg (by simp) hn (by simpa [jset] using k)
theorem jG_astore_n_2e (F : jF E x own cc nL d cm sm) {b0 b1 : Value} {w : Value} {r : List Value} {v : Nat} (dg : decode cc pc = .ok (.astore_n 2, 1)) (hn : 2 < nL) (k : jG E x cells slots (pc + 1) (b0 :: b1 :: .ref v :: r) st h) : jG E x cells slots pc (b0 :: b1 :: w :: r) (.ref v :: st) h := jG_astore_n F dg (by simp) hn (by simpa [jset] using k)
theorem jG_astore_n_2n (F : jF E x own cc nL d cm sm) {b0 b1 : Value} {v : Nat} (dg : decode cc pc = .ok (.astore_n 2, 1)) (hn : 2 < nL) (k : jG E x cells slots (pc + 1) [b0, b1, .ref v] st h) : jG E x cells slots pc [b0, b1] (.ref v :: st) h := jG_astore_n F dg (by simp) hn (by simpa [jset] using k)
theorem jG_iinc_2 (F : jF E x own cc nL d cm sm) {b0 b1 : Value} {r : List Value} {n : Int} {v w : Int32} (dg : decode cc pc = .ok (.iinc 2 n, 3)) (hw : v + Int32.ofInt n = w) (hn : 2 < nL) (k : jG E x cells slots (pc + 3) (b0 :: b1 :: .int w :: r) st h) : jG E x cells slots pc (b0 :: b1 :: .int v :: r) st h := jG_iinc F dg (by simp) hw hn (by simpa [jset] using k)
theorem jG_istore_n_3e (F : jF E x own cc nL d cm sm) {b0 b1 b2 : Value} {w : Value} {r : List Value} {v : Int32} (dg : decode cc pc = .ok (.istore_n 3, 1)) (hn : 3 < nL) (k : jG E x cells slots (pc + 1) (b0 :: b1 :: b2 :: .int v :: r) st h) : jG E x cells slots pc (b0 :: b1 :: b2 :: w :: r) (.int v :: st) h := jG_istore_n F dg (by simp [show ((3 : Fin 4) : Nat) = 3 from rfl]) hn (by simpa [jset, show ((3 : Fin 4) : Nat) = 3 from rfl] using k)
theorem jG_istore_n_3n (F : jF E x own cc nL d cm sm) {b0 b1 b2 : Value} {v : Int32} (dg : decode cc pc = .ok (.istore_n 3, 1)) (hn : 3 < nL) (k : jG E x cells slots (pc + 1) [b0, b1, b2, .int v] st h) : jG E x cells slots pc [b0, b1, b2] (.int v :: st) h := jG_istore_n F dg (by simp [show ((3 : Fin 4) : Nat) = 3 from rfl]) hn (by simpa [jset, show ((3 : Fin 4) : Nat) = 3 from rfl] using k)
theorem jG_astore_n_3e (F : jF E x own cc nL d cm sm) {b0 b1 b2 : Value} {w : Value} {r : List Value} {v : Nat} (dg : decode cc pc = .ok (.astore_n 3, 1)) (hn : 3 < nL) (k : jG E x cells slots (pc + 1) (b0 :: b1 :: b2 :: .ref v :: r) st h) : jG E x cells slots pc (b0 :: b1 :: b2 :: w :: r) (.ref v :: st) h := jG_astore_n F dg (by simp [show ((3 : Fin 4) : Nat) = 3 from rfl]) hn (by simpa [jset, show ((3 : Fin 4) : Nat) = 3 from rfl] using k)
theorem jG_astore_n_3n (F : jF E x own cc nL d cm sm) {b0 b1 b2 : Value} {v : Nat} (dg : decode cc pc = .ok (.astore_n 3, 1)) (hn : 3 < nL) (k : jG E x cells slots (pc + 1) [b0, b1, b2, .ref v] st h) : jG E x cells slots pc [b0, b1, b2] (.ref v :: st) h := jG_astore_n F dg (by simp [show ((3 : Fin 4) : Nat) = 3 from rfl]) hn (by simpa [jset, show ((3 : Fin 4) : Nat) = 3 from rfl] using k)
theorem jG_iinc_3 (F : jF E x own cc nL d cm sm) {b0 b1 b2 : Value} {r : List Value} {n : Int} {v w : Int32} (dg : decode cc pc = .ok (.iinc 3 n, 3)) (hw : v + Int32.ofInt n = w) (hn : 3 < nL) (k : jG E x cells slots (pc + 3) (b0 :: b1 :: b2 :: .int w :: r) st h) : jG E x cells slots pc (b0 :: b1 :: b2 :: .int v :: r) st h := jG_iinc F dg (by simp) hw hn (by simpa [jset] using k)
theorem jG_istore_4e (F : jF E x own cc nL d cm sm) {b0 b1 b2 b3 : Value} {w : Value} {r : List Value} {v : Int32} (dg : decode cc pc = .ok (.istore 4, 2)) (hn : 4 < nL) (k : jG E x cells slots (pc + 2) (b0 :: b1 :: b2 :: b3 :: .int v :: r) st h) : jG E x cells slots pc (b0 :: b1 :: b2 :: b3 :: w :: r) (.int v :: st) h := jG_istore F dg (by simp) hn (by simpa [jset] using k)
theorem jG_istore_4n (F : jF E x own cc nL d cm sm) {b0 b1 b2 b3 : Value} {v : Int32} (dg : decode cc pc = .ok (.istore 4, 2)) (hn : 4 < nL) (k : jG E x cells slots (pc + 2) [b0, b1, b2, b3, .int v] st h) : jG E x cells slots pc [b0, b1, b2, b3] (.int v :: st) h := jG_istore F dg (by simp) hn (by simpa [jset] using k)
theorem jG_astore_4e (F : jF E x own cc nL d cm sm) {b0 b1 b2 b3 : Value} {w : Value} {r : List Value} {v : Nat} (dg : decode cc pc = .ok (.astore 4, 2)) (hn : 4 < nL) (k : jG E x cells slots (pc + 2) (b0 :: b1 :: b2 :: b3 :: .ref v :: r) st h) : jG E x cells slots pc (b0 :: b1 :: b2 :: b3 :: w :: r) (.ref v :: st) h := jG_astore F dg (by simp) hn (by simpa [jset] using k)
theorem jG_astore_4n (F : jF E x own cc nL d cm sm) {b0 b1 b2 b3 : Value} {v : Nat} (dg : decode cc pc = .ok (.astore 4, 2)) (hn : 4 < nL) (k : jG E x cells slots (pc + 2) [b0, b1, b2, b3, .ref v] st h) : jG E x cells slots pc [b0, b1, b2, b3] (.ref v :: st) h := jG_astore F dg (by simp) hn (by simpa [jset] using k)
theorem jG_iinc_4 (F : jF E x own cc nL d cm sm) {b0 b1 b2 b3 : Value} {r : List Value} {n : Int} {v w : Int32} (dg : decode cc pc = .ok (.iinc 4 n, 3)) (hw : v + Int32.ofInt n = w) (hn : 4 < nL) (k : jG E x cells slots (pc + 3) (b0 :: b1 :: b2 :: b3 :: .int w :: r) st h) : jG E x cells slots pc (b0 :: b1 :: b2 :: b3 :: .int v :: r) st h := jG_iinc F dg (by simp) hw hn (by simpa [jset] using k)
theorem jG_istore_5e (F : jF E x own cc nL d cm sm) {b0 b1 b2 b3 b4 : Value} {w : Value} {r : List Value} {v : Int32} (dg : decode cc pc = .ok (.istore 5, 2)) (hn : 5 < nL) (k : jG E x cells slots (pc + 2) (b0 :: b1 :: b2 :: b3 :: b4 :: .int v :: r) st h) : jG E x cells slots pc (b0 :: b1 :: b2 :: b3 :: b4 :: w :: r) (.int v :: st) h := jG_istore F dg (by simp) hn (by simpa [jset] using k)
theorem jG_istore_5n (F : jF E x own cc nL d cm sm) {b0 b1 b2 b3 b4 : Value} {v : Int32} (dg : decode cc pc = .ok (.istore 5, 2)) (hn : 5 < nL) (k : jG E x cells slots (pc + 2) [b0, b1, b2, b3, b4, .int v] st h) : jG E x cells slots pc [b0, b1, b2, b3, b4] (.int v :: st) h := jG_istore F dg (by simp) hn (by simpa [jset] using k)
theorem jG_astore_5e (F : jF E x own cc nL d cm sm) {b0 b1 b2 b3 b4 : Value} {w : Value} {r : List Value} {v : Nat} (dg : decode cc pc = .ok (.astore 5, 2)) (hn : 5 < nL) (k : jG E x cells slots (pc + 2) (b0 :: b1 :: b2 :: b3 :: b4 :: .ref v :: r) st h) : jG E x cells slots pc (b0 :: b1 :: b2 :: b3 :: b4 :: w :: r) (.ref v :: st) h := jG_astore F dg (by simp) hn (by simpa [jset] using k)
theorem jG_astore_5n (F : jF E x own cc nL d cm sm) {b0 b1 b2 b3 b4 : Value} {v : Nat} (dg : decode cc pc = .ok (.astore 5, 2)) (hn : 5 < nL) (k : jG E x cells slots (pc + 2) [b0, b1, b2, b3, b4, .ref v] st h) : jG E x cells slots pc [b0, b1, b2, b3, b4] (.ref v :: st) h := jG_astore F dg (by simp) hn (by simpa [jset] using k)
theorem jG_iinc_5 (F : jF E x own cc nL d cm sm) {b0 b1 b2 b3 b4 : Value} {r : List Value} {n : Int} {v w : Int32} (dg : decode cc pc = .ok (.iinc 5 n, 3)) (hw : v + Int32.ofInt n = w) (hn : 5 < nL) (k : jG E x cells slots (pc + 3) (b0 :: b1 :: b2 :: b3 :: b4 :: .int w :: r) st h) : jG E x cells slots pc (b0 :: b1 :: b2 :: b3 :: b4 :: .int v :: r) st h := jG_iinc F dg (by simp) hw hn (by simpa [jset] using k)
theorem jG_istore_6e (F : jF E x own cc nL d cm sm) {b0 b1 b2 b3 b4 b5 : Value} {w : Value} {r : List Value} {v : Int32} (dg : decode cc pc = .ok (.istore 6, 2)) (hn : 6 < nL) (k : jG E x cells slots (pc + 2) (b0 :: b1 :: b2 :: b3 :: b4 :: b5 :: .int v :: r) st h) : jG E x cells slots pc (b0 :: b1 :: b2 :: b3 :: b4 :: b5 :: w :: r) (.int v :: st) h := jG_istore F dg (by simp) hn (by simpa [jset] using k)
theorem jG_istore_6n (F : jF E x own cc nL d cm sm) {b0 b1 b2 b3 b4 b5 : Value} {v : Int32} (dg : decode cc pc = .ok (.istore 6, 2)) (hn : 6 < nL) (k : jG E x cells slots (pc + 2) [b0, b1, b2, b3, b4, b5, .int v] st h) : jG E x cells slots pc [b0, b1, b2, b3, b4, b5] (.int v :: st) h := jG_istore F dg (by simp) hn (by simpa [jset] using k)
theorem jG_astore_6e (F : jF E x own cc nL d cm sm) {b0 b1 b2 b3 b4 b5 : Value} {w : Value} {r : List Value} {v : Nat} (dg : decode cc pc = .ok (.astore 6, 2)) (hn : 6 < nL) (k : jG E x cells slots (pc + 2) (b0 :: b1 :: b2 :: b3 :: b4 :: b5 :: .ref v :: r) st h) : jG E x cells slots pc (b0 :: b1 :: b2 :: b3 :: b4 :: b5 :: w :: r) (.ref v :: st) h := jG_astore F dg (by simp) hn (by simpa [jset] using k)
theorem jG_astore_6n (F : jF E x own cc nL d cm sm) {b0 b1 b2 b3 b4 b5 : Value} {v : Nat} (dg : decode cc pc = .ok (.astore 6, 2)) (hn : 6 < nL) (k : jG E x cells slots (pc + 2) [b0, b1, b2, b3, b4, b5, .ref v] st h) : jG E x cells slots pc [b0, b1, b2, b3, b4, b5] (.ref v :: st) h := jG_astore F dg (by simp) hn (by simpa [jset] using k)
theorem jG_iinc_6 (F : jF E x own cc nL d cm sm) {b0 b1 b2 b3 b4 b5 : Value} {r : List Value} {n : Int} {v w : Int32} (dg : decode cc pc = .ok (.iinc 6 n, 3)) (hw : v + Int32.ofInt n = w) (hn : 6 < nL) (k : jG E x cells slots (pc + 3) (b0 :: b1 :: b2 :: b3 :: b4 :: b5 :: .int w :: r) st h) : jG E x cells slots pc (b0 :: b1 :: b2 :: b3 :: b4 :: b5 :: .int v :: r) st h := jG_iinc F dg (by simp) hw hn (by simpa [jset] using k)
theorem jG_istore_7e (F : jF E x own cc nL d cm sm) {b0 b1 b2 b3 b4 b5 b6 : Value} {w : Value} {r : List Value} {v : Int32} (dg : decode cc pc = .ok (.istore 7, 2)) (hn : 7 < nL) (k : jG E x cells slots (pc + 2) (b0 :: b1 :: b2 :: b3 :: b4 :: b5 :: b6 :: .int v :: r) st h) : jG E x cells slots pc (b0 :: b1 :: b2 :: b3 :: b4 :: b5 :: b6 :: w :: r) (.int v :: st) h := jG_istore F dg (by simp) hn (by simpa [jset] using k)
theorem jG_istore_7n (F : jF E x own cc nL d cm sm) {b0 b1 b2 b3 b4 b5 b6 : Value} {v : Int32} (dg : decode cc pc = .ok (.istore 7, 2)) (hn : 7 < nL) (k : jG E x cells slots (pc + 2) [b0, b1, b2, b3, b4, b5, b6, .int v] st h) : jG E x cells slots pc [b0, b1, b2, b3, b4, b5, b6] (.int v :: st) h := jG_istore F dg (by simp) hn (by simpa [jset] using k)
theorem jG_astore_7e (F : jF E x own cc nL d cm sm) {b0 b1 b2 b3 b4 b5 b6 : Value} {w : Value} {r : List Value} {v : Nat} (dg : decode cc pc = .ok (.astore 7, 2)) (hn : 7 < nL) (k : jG E x cells slots (pc + 2) (b0 :: b1 :: b2 :: b3 :: b4 :: b5 :: b6 :: .ref v :: r) st h) : jG E x cells slots pc (b0 :: b1 :: b2 :: b3 :: b4 :: b5 :: b6 :: w :: r) (.ref v :: st) h := jG_astore F dg (by simp) hn (by simpa [jset] using k)
theorem jG_astore_7n (F : jF E x own cc nL d cm sm) {b0 b1 b2 b3 b4 b5 b6 : Value} {v : Nat} (dg : decode cc pc = .ok (.astore 7, 2)) (hn : 7 < nL) (k : jG E x cells slots (pc + 2) [b0, b1, b2, b3, b4, b5, b6, .ref v] st h) : jG E x cells slots pc [b0, b1, b2, b3, b4, b5, b6] (.ref v :: st) h := jG_astore F dg (by simp) hn (by simpa [jset] using k)
theorem jG_iinc_7 (F : jF E x own cc nL d cm sm) {b0 b1 b2 b3 b4 b5 b6 : Value} {r : List Value} {n : Int} {v w : Int32} (dg : decode cc pc = .ok (.iinc 7 n, 3)) (hw : v + Int32.ofInt n = w) (hn : 7 < nL) (k : jG E x cells slots (pc + 3) (b0 :: b1 :: b2 :: b3 :: b4 :: b5 :: b6 :: .int w :: r) st h) : jG E x cells slots pc (b0 :: b1 :: b2 :: b3 :: b4 :: b5 :: b6 :: .int v :: r) st h := jG_iinc F dg (by simp) hw hn (by simpa [jset] using k)
theorem jG_istore_8e (F : jF E x own cc nL d cm sm) {b0 b1 b2 b3 b4 b5 b6 b7 : Value} {w : Value} {r : List Value} {v : Int32} (dg : decode cc pc = .ok (.istore 8, 2)) (hn : 8 < nL) (k : jG E x cells slots (pc + 2) (b0 :: b1 :: b2 :: b3 :: b4 :: b5 :: b6 :: b7 :: .int v :: r) st h) : jG E x cells slots pc (b0 :: b1 :: b2 :: b3 :: b4 :: b5 :: b6 :: b7 :: w :: r) (.int v :: st) h := jG_istore F dg (by simp) hn (by simpa [jset] using k)
theorem jG_istore_8n (F : jF E x own cc nL d cm sm) {b0 b1 b2 b3 b4 b5 b6 b7 : Value} {v : Int32} (dg : decode cc pc = .ok (.istore 8, 2)) (hn : 8 < nL) (k : jG E x cells slots (pc + 2) [b0, b1, b2, b3, b4, b5, b6, b7, .int v] st h) : jG E x cells slots pc [b0, b1, b2, b3, b4, b5, b6, b7] (.int v :: st) h := jG_istore F dg (by simp) hn (by simpa [jset] using k)
theorem jG_astore_8e (F : jF E x own cc nL d cm sm) {b0 b1 b2 b3 b4 b5 b6 b7 : Value} {w : Value} {r : List Value} {v : Nat} (dg : decode cc pc = .ok (.astore 8, 2)) (hn : 8 < nL) (k : jG E x cells slots (pc + 2) (b0 :: b1 :: b2 :: b3 :: b4 :: b5 :: b6 :: b7 :: .ref v :: r) st h) : jG E x cells slots pc (b0 :: b1 :: b2 :: b3 :: b4 :: b5 :: b6 :: b7 :: w :: r) (.ref v :: st) h := jG_astore F dg (by simp) hn (by simpa [jset] using k)
theorem jG_astore_8n (F : jF E x own cc nL d cm sm) {b0 b1 b2 b3 b4 b5 b6 b7 : Value} {v : Nat} (dg : decode cc pc = .ok (.astore 8, 2)) (hn : 8 < nL) (k : jG E x cells slots (pc + 2) [b0, b1, b2, b3, b4, b5, b6, b7, .ref v] st h) : jG E x cells slots pc [b0, b1, b2, b3, b4, b5, b6, b7] (.ref v :: st) h := jG_astore F dg (by simp) hn (by simpa [jset] using k)
theorem jG_iinc_8 (F : jF E x own cc nL d cm sm) {b0 b1 b2 b3 b4 b5 b6 b7 : Value} {r : List Value} {n : Int} {v w : Int32} (dg : decode cc pc = .ok (.iinc 8 n, 3)) (hw : v + Int32.ofInt n = w) (hn : 8 < nL) (k : jG E x cells slots (pc + 3) (b0 :: b1 :: b2 :: b3 :: b4 :: b5 :: b6 :: b7 :: .int w :: r) st h) : jG E x cells slots pc (b0 :: b1 :: b2 :: b3 :: b4 :: b5 :: b6 :: b7 :: .int v :: r) st h := jG_iinc F dg (by simp) hw hn (by simpa [jset] using k)
theorem jG_istore_9e (F : jF E x own cc nL d cm sm) {b0 b1 b2 b3 b4 b5 b6 b7 b8 : Value} {w : Value} {r : List Value} {v : Int32} (dg : decode cc pc = .ok (.istore 9, 2)) (hn : 9 < nL) (k : jG E x cells slots (pc + 2) (b0 :: b1 :: b2 :: b3 :: b4 :: b5 :: b6 :: b7 :: b8 :: .int v :: r) st h) : jG E x cells slots pc (b0 :: b1 :: b2 :: b3 :: b4 :: b5 :: b6 :: b7 :: b8 :: w :: r) (.int v :: st) h := jG_istore F dg (by simp) hn (by simpa [jset] using k)
theorem jG_istore_9n (F : jF E x own cc nL d cm sm) {b0 b1 b2 b3 b4 b5 b6 b7 b8 : Value} {v : Int32} (dg : decode cc pc = .ok (.istore 9, 2)) (hn : 9 < nL) (k : jG E x cells slots (pc + 2) [b0, b1, b2, b3, b4, b5, b6, b7, b8, .int v] st h) : jG E x cells slots pc [b0, b1, b2, b3, b4, b5, b6, b7, b8] (.int v :: st) h := jG_istore F dg (by simp) hn (by simpa [jset] using k)
theorem jG_astore_9e (F : jF E x own cc nL d cm sm) {b0 b1 b2 b3 b4 b5 b6 b7 b8 : Value} {w : Value} {r : List Value} {v : Nat} (dg : decode cc pc = .ok (.astore 9, 2)) (hn : 9 < nL) (k : jG E x cells slots (pc + 2) (b0 :: b1 :: b2 :: b3 :: b4 :: b5 :: b6 :: b7 :: b8 :: .ref v :: r) st h) : jG E x cells slots pc (b0 :: b1 :: b2 :: b3 :: b4 :: b5 :: b6 :: b7 :: b8 :: w :: r) (.ref v :: st) h := jG_astore F dg (by simp) hn (by simpa [jset] using k)
theorem jG_astore_9n (F : jF E x own cc nL d cm sm) {b0 b1 b2 b3 b4 b5 b6 b7 b8 : Value} {v : Nat} (dg : decode cc pc = .ok (.astore 9, 2)) (hn : 9 < nL) (k : jG E x cells slots (pc + 2) [b0, b1, b2, b3, b4, b5, b6, b7, b8, .ref v] st h) : jG E x cells slots pc [b0, b1, b2, b3, b4, b5, b6, b7, b8] (.ref v :: st) h := jG_astore F dg (by simp) hn (by simpa [jset] using k)
theorem jG_iinc_9 (F : jF E x own cc nL d cm sm) {b0 b1 b2 b3 b4 b5 b6 b7 b8 : Value} {r : List Value} {n : Int} {v w : Int32} (dg : decode cc pc = .ok (.iinc 9 n, 3)) (hw : v + Int32.ofInt n = w) (hn : 9 < nL) (k : jG E x cells slots (pc + 3) (b0 :: b1 :: b2 :: b3 :: b4 :: b5 :: b6 :: b7 :: b8 :: .int w :: r) st h) : jG E x cells slots pc (b0 :: b1 :: b2 :: b3 :: b4 :: b5 :: b6 :: b7 :: b8 :: .int v :: r) st h := jG_iinc F dg (by simp) hw hn (by simpa [jset] using k)
theorem jG_istore_10e (F : jF E x own cc nL d cm sm) {b0 b1 b2 b3 b4 b5 b6 b7 b8 b9 : Value} {w : Value} {r : List Value} {v : Int32} (dg : decode cc pc = .ok (.istore 10, 2)) (hn : 10 < nL) (k : jG E x cells slots (pc + 2) (b0 :: b1 :: b2 :: b3 :: b4 :: b5 :: b6 :: b7 :: b8 :: b9 :: .int v :: r) st h) : jG E x cells slots pc (b0 :: b1 :: b2 :: b3 :: b4 :: b5 :: b6 :: b7 :: b8 :: b9 :: w :: r) (.int v :: st) h := jG_istore F dg (by simp) hn (by simpa [jset] using k)
theorem jG_istore_10n (F : jF E x own cc nL d cm sm) {b0 b1 b2 b3 b4 b5 b6 b7 b8 b9 : Value} {v : Int32} (dg : decode cc pc = .ok (.istore 10, 2)) (hn : 10 < nL) (k : jG E x cells slots (pc + 2) [b0, b1, b2, b3, b4, b5, b6, b7, b8, b9, .int v] st h) : jG E x cells slots pc [b0, b1, b2, b3, b4, b5, b6, b7, b8, b9] (.int v :: st) h := jG_istore F dg (by simp) hn (by simpa [jset] using k)
theorem jG_astore_10e (F : jF E x own cc nL d cm sm) {b0 b1 b2 b3 b4 b5 b6 b7 b8 b9 : Value} {w : Value} {r : List Value} {v : Nat} (dg : decode cc pc = .ok (.astore 10, 2)) (hn : 10 < nL) (k : jG E x cells slots (pc + 2) (b0 :: b1 :: b2 :: b3 :: b4 :: b5 :: b6 :: b7 :: b8 :: b9 :: .ref v :: r) st h) : jG E x cells slots pc (b0 :: b1 :: b2 :: b3 :: b4 :: b5 :: b6 :: b7 :: b8 :: b9 :: w :: r) (.ref v :: st) h := jG_astore F dg (by simp) hn (by simpa [jset] using k)
theorem jG_astore_10n (F : jF E x own cc nL d cm sm) {b0 b1 b2 b3 b4 b5 b6 b7 b8 b9 : Value} {v : Nat} (dg : decode cc pc = .ok (.astore 10, 2)) (hn : 10 < nL) (k : jG E x cells slots (pc + 2) [b0, b1, b2, b3, b4, b5, b6, b7, b8, b9, .ref v] st h) : jG E x cells slots pc [b0, b1, b2, b3, b4, b5, b6, b7, b8, b9] (.ref v :: st) h := jG_astore F dg (by simp) hn (by simpa [jset] using k)
theorem jG_iinc_10 (F : jF E x own cc nL d cm sm) {b0 b1 b2 b3 b4 b5 b6 b7 b8 b9 : Value} {r : List Value} {n : Int} {v w : Int32} (dg : decode cc pc = .ok (.iinc 10 n, 3)) (hw : v + Int32.ofInt n = w) (hn : 10 < nL) (k : jG E x cells slots (pc + 3) (b0 :: b1 :: b2 :: b3 :: b4 :: b5 :: b6 :: b7 :: b8 :: b9 :: .int w :: r) st h) : jG E x cells slots pc (b0 :: b1 :: b2 :: b3 :: b4 :: b5 :: b6 :: b7 :: b8 :: b9 :: .int v :: r) st h := jG_iinc F dg (by simp) hw hn (by simpa [jset] using k)
theorem jG_istore_11e (F : jF E x own cc nL d cm sm) {b0 b1 b2 b3 b4 b5 b6 b7 b8 b9 b10 : Value} {w : Value} {r : List Value} {v : Int32} (dg : decode cc pc = .ok (.istore 11, 2)) (hn : 11 < nL) (k : jG E x cells slots (pc + 2) (b0 :: b1 :: b2 :: b3 :: b4 :: b5 :: b6 :: b7 :: b8 :: b9 :: b10 :: .int v :: r) st h) : jG E x cells slots pc (b0 :: b1 :: b2 :: b3 :: b4 :: b5 :: b6 :: b7 :: b8 :: b9 :: b10 :: w :: r) (.int v :: st) h := jG_istore F dg (by simp) hn (by simpa [jset] using k)
theorem jG_istore_11n (F : jF E x own cc nL d cm sm) {b0 b1 b2 b3 b4 b5 b6 b7 b8 b9 b10 : Value} {v : Int32} (dg : decode cc pc = .ok (.istore 11, 2)) (hn : 11 < nL) (k : jG E x cells slots (pc + 2) [b0, b1, b2, b3, b4, b5, b6, b7, b8, b9, b10, .int v] st h) : jG E x cells slots pc [b0, b1, b2, b3, b4, b5, b6, b7, b8, b9, b10] (.int v :: st) h := jG_istore F dg (by simp) hn (by simpa [jset] using k)
theorem jG_astore_11e (F : jF E x own cc nL d cm sm) {b0 b1 b2 b3 b4 b5 b6 b7 b8 b9 b10 : Value} {w : Value} {r : List Value} {v : Nat} (dg : decode cc pc = .ok (.astore 11, 2)) (hn : 11 < nL) (k : jG E x cells slots (pc + 2) (b0 :: b1 :: b2 :: b3 :: b4 :: b5 :: b6 :: b7 :: b8 :: b9 :: b10 :: .ref v :: r) st h) : jG E x cells slots pc (b0 :: b1 :: b2 :: b3 :: b4 :: b5 :: b6 :: b7 :: b8 :: b9 :: b10 :: w :: r) (.ref v :: st) h := jG_astore F dg (by simp) hn (by simpa [jset] using k)
theorem jG_astore_11n (F : jF E x own cc nL d cm sm) {b0 b1 b2 b3 b4 b5 b6 b7 b8 b9 b10 : Value} {v : Nat} (dg : decode cc pc = .ok (.astore 11, 2)) (hn : 11 < nL) (k : jG E x cells slots (pc + 2) [b0, b1, b2, b3, b4, b5, b6, b7, b8, b9, b10, .ref v] st h) : jG E x cells slots pc [b0, b1, b2, b3, b4, b5, b6, b7, b8, b9, b10] (.ref v :: st) h := jG_astore F dg (by simp) hn (by simpa [jset] using k)
theorem jG_iinc_11 (F : jF E x own cc nL d cm sm) {b0 b1 b2 b3 b4 b5 b6 b7 b8 b9 b10 : Value} {r : List Value} {n : Int} {v w : Int32} (dg : decode cc pc = .ok (.iinc 11 n, 3)) (hw : v + Int32.ofInt n = w) (hn : 11 < nL) (k : jG E x cells slots (pc + 3) (b0 :: b1 :: b2 :: b3 :: b4 :: b5 :: b6 :: b7 :: b8 :: b9 :: b10 :: .int w :: r) st h) : jG E x cells slots pc (b0 :: b1 :: b2 :: b3 :: b4 :: b5 :: b6 :: b7 :: b8 :: b9 :: b10 :: .int v :: r) st h := jG_iinc F dg (by simp) hw hn (by simpa [jset] using k)
theorem jG_istore_12e (F : jF E x own cc nL d cm sm) {b0 b1 b2 b3 b4 b5 b6 b7 b8 b9 b10 b11 : Value} {w : Value} {r : List Value} {v : Int32} (dg : decode cc pc = .ok (.istore 12, 2)) (hn : 12 < nL) (k : jG E x cells slots (pc + 2) (b0 :: b1 :: b2 :: b3 :: b4 :: b5 :: b6 :: b7 :: b8 :: b9 :: b10 :: b11 :: .int v :: r) st h) : jG E x cells slots pc (b0 :: b1 :: b2 :: b3 :: b4 :: b5 :: b6 :: b7 :: b8 :: b9 :: b10 :: b11 :: w :: r) (.int v :: st) h := jG_istore F dg (by simp) hn (by simpa [jset] using k)
theorem jG_istore_12n (F : jF E x own cc nL d cm sm) {b0 b1 b2 b3 b4 b5 b6 b7 b8 b9 b10 b11 : Value} {v : Int32} (dg : decode cc pc = .ok (.istore 12, 2)) (hn : 12 < nL) (k : jG E x cells slots (pc + 2) [b0, b1, b2, b3, b4, b5, b6, b7, b8, b9, b10, b11, .int v] st h) : jG E x cells slots pc [b0, b1, b2, b3, b4, b5, b6, b7, b8, b9, b10, b11] (.int v :: st) h := jG_istore F dg (by simp) hn (by simpa [jset] using k)
theorem jG_astore_12e (F : jF E x own cc nL d cm sm) {b0 b1 b2 b3 b4 b5 b6 b7 b8 b9 b10 b11 : Value} {w : Value} {r : List Value} {v : Nat} (dg : decode cc pc = .ok (.astore 12, 2)) (hn : 12 < nL) (k : jG E x cells slots (pc + 2) (b0 :: b1 :: b2 :: b3 :: b4 :: b5 :: b6 :: b7 :: b8 :: b9 :: b10 :: b11 :: .ref v :: r) st h) : jG E x cells slots pc (b0 :: b1 :: b2 :: b3 :: b4 :: b5 :: b6 :: b7 :: b8 :: b9 :: b10 :: b11 :: w :: r) (.ref v :: st) h := jG_astore F dg (by simp) hn (by simpa [jset] using k)
theorem jG_astore_12n (F : jF E x own cc nL d cm sm) {b0 b1 b2 b3 b4 b5 b6 b7 b8 b9 b10 b11 : Value} {v : Nat} (dg : decode cc pc = .ok (.astore 12, 2)) (hn : 12 < nL) (k : jG E x cells slots (pc + 2) [b0, b1, b2, b3, b4, b5, b6, b7, b8, b9, b10, b11, .ref v] st h) : jG E x cells slots pc [b0, b1, b2, b3, b4, b5, b6, b7, b8, b9, b10, b11] (.ref v :: st) h := jG_astore F dg (by simp) hn (by simpa [jset] using k)
theorem jG_iinc_12 (F : jF E x own cc nL d cm sm) {b0 b1 b2 b3 b4 b5 b6 b7 b8 b9 b10 b11 : Value} {r : List Value} {n : Int} {v w : Int32} (dg : decode cc pc = .ok (.iinc 12 n, 3)) (hw : v + Int32.ofInt n = w) (hn : 12 < nL) (k : jG E x cells slots (pc + 3) (b0 :: b1 :: b2 :: b3 :: b4 :: b5 :: b6 :: b7 :: b8 :: b9 :: b10 :: b11 :: .int w :: r) st h) : jG E x cells slots pc (b0 :: b1 :: b2 :: b3 :: b4 :: b5 :: b6 :: b7 :: b8 :: b9 :: b10 :: b11 :: .int v :: r) st h := jG_iinc F dg (by simp) hw hn (by simpa [jset] using k)
theorem jG_istore_13e (F : jF E x own cc nL d cm sm) {b0 b1 b2 b3 b4 b5 b6 b7 b8 b9 b10 b11 b12 : Value} {w : Value} {r : List Value} {v : Int32} (dg : decode cc pc = .ok (.istore 13, 2)) (hn : 13 < nL) (k : jG E x cells slots (pc + 2) (b0 :: b1 :: b2 :: b3 :: b4 :: b5 :: b6 :: b7 :: b8 :: b9 :: b10 :: b11 :: b12 :: .int v :: r) st h) : jG E x cells slots pc (b0 :: b1 :: b2 :: b3 :: b4 :: b5 :: b6 :: b7 :: b8 :: b9 :: b10 :: b11 :: b12 :: w :: r) (.int v :: st) h := jG_istore F dg (by simp) hn (by simpa [jset] using k)
theorem jG_istore_13n (F : jF E x own cc nL d cm sm) {b0 b1 b2 b3 b4 b5 b6 b7 b8 b9 b10 b11 b12 : Value} {v : Int32} (dg : decode cc pc = .ok (.istore 13, 2)) (hn : 13 < nL) (k : jG E x cells slots (pc + 2) [b0, b1, b2, b3, b4, b5, b6, b7, b8, b9, b10, b11, b12, .int v] st h) : jG E x cells slots pc [b0, b1, b2, b3, b4, b5, b6, b7, b8, b9, b10, b11, b12] (.int v :: st) h := jG_istore F dg (by simp) hn (by simpa [jset] using k)
theorem jG_astore_13e (F : jF E x own cc nL d cm sm) {b0 b1 b2 b3 b4 b5 b6 b7 b8 b9 b10 b11 b12 : Value} {w : Value} {r : List Value} {v : Nat} (dg : decode cc pc = .ok (.astore 13, 2)) (hn : 13 < nL) (k : jG E x cells slots (pc + 2) (b0 :: b1 :: b2 :: b3 :: b4 :: b5 :: b6 :: b7 :: b8 :: b9 :: b10 :: b11 :: b12 :: .ref v :: r) st h) : jG E x cells slots pc (b0 :: b1 :: b2 :: b3 :: b4 :: b5 :: b6 :: b7 :: b8 :: b9 :: b10 :: b11 :: b12 :: w :: r) (.ref v :: st) h := jG_astore F dg (by simp) hn (by simpa [jset] using k)
theorem jG_astore_13n (F : jF E x own cc nL d cm sm) {b0 b1 b2 b3 b4 b5 b6 b7 b8 b9 b10 b11 b12 : Value} {v : Nat} (dg : decode cc pc = .ok (.astore 13, 2)) (hn : 13 < nL) (k : jG E x cells slots (pc + 2) [b0, b1, b2, b3, b4, b5, b6, b7, b8, b9, b10, b11, b12, .ref v] st h) : jG E x cells slots pc [b0, b1, b2, b3, b4, b5, b6, b7, b8, b9, b10, b11, b12] (.ref v :: st) h := jG_astore F dg (by simp) hn (by simpa [jset] using k)
theorem jG_iinc_13 (F : jF E x own cc nL d cm sm) {b0 b1 b2 b3 b4 b5 b6 b7 b8 b9 b10 b11 b12 : Value} {r : List Value} {n : Int} {v w : Int32} (dg : decode cc pc = .ok (.iinc 13 n, 3)) (hw : v + Int32.ofInt n = w) (hn : 13 < nL) (k : jG E x cells slots (pc + 3) (b0 :: b1 :: b2 :: b3 :: b4 :: b5 :: b6 :: b7 :: b8 :: b9 :: b10 :: b11 :: b12 :: .int w :: r) st h) : jG E x cells slots pc (b0 :: b1 :: b2 :: b3 :: b4 :: b5 :: b6 :: b7 :: b8 :: b9 :: b10 :: b11 :: b12 :: .int v :: r) st h := jG_iinc F dg (by simp) hw hn (by simpa [jset] using k)
theorem jG_iald (F : jF E x own cc nL d cm sm) {lv : List Value} {i n k : Nat} {f : Nat → Int32} {j : Int32} (dg : decode cc pc = .ok (.iaload, 1)) (he : h[i]? = some (.inl (E.2.2.1, n, .inl f))) (hj : j = nI k) (hk : k < n) (hn : n < 2 ^ 31) (kk : jG E x cells slots (pc + 1) lv (.int (f k) :: st) h) : jG E x cells slots pc lv (.int j :: .ref (E.1 + i) :: st) h := by
  subst hj
  refine jG_iaload F dg he (vp_in_nI hk hn) ?_
  rw [nI_clamp (Nat.lt_trans hk hn)]
  exact kk
theorem jG_iast (F : jF E x own cc nL d cm sm) {lv : List Value} {i n k : Nat} {f : Nat → Int32} {j v : Int32} (dg : decode cc pc = .ok (.iastore, 1)) (he : h[i]? = some (.inl (E.2.2.1, n, .inl f))) (hj : j = nI k) (hk : k < n) (hn : n < 2 ^ 31) (kk : jG E x cells slots (pc + 1) lv st (h.set i (.inl (E.2.2.1, n, .inl (upd f k v))))) : jG E x cells slots pc lv (.int v :: .int j :: .ref (E.1 + i) :: st) h := by
  subst hj
  refine jG_iastore F dg he (vp_in_nI hk hn) ?_
  rw [nI_clamp (Nat.lt_trans hk hn)]
  exact kk
theorem jG_tabN (F : jF E x own cc nL d cm sm) {lv : List Value} {t k : Nat} {f : Nat → Int32} {j : Int32} (hT : va_T .int t 4 (fun j => .int (f j)) (jb E) (jS x) (jS x).heap) (dg : decode cc pc = .ok (.iaload, 1)) (hj : j = nI k) (hk : k < 4) (kk : jG E x cells slots (pc + 1) lv (.int (f k) :: st) h) : jG E x cells slots pc lv (.int j :: .ref t :: st) h := by
  subst hj
  refine jG_tab F hT dg (vp_in_nI hk (by decide)) ?_
  rw [nI_clamp (Nat.lt_trans hk (by decide))]
  exact kk
theorem jG_iret (F : jF E x own cc nL d cm sm) {lv : List Value} {v r : Int32} {ty : FieldType} (T : jT E x (some ty) (some (.int r)) h' cells slots) (e1 : v = r) (e2 : h = h') (hn : narrow ty (.int v) = .int v) (dg : decode cc pc = .ok (.ireturn, 1)) : jG E x cells slots pc lv [.int v] h := by
  subst e1; subst e2
  exact jG_ireturn F T hn dg
theorem jG_ret (F : jF E x own cc nL d cm sm) {lv : List Value} (T : jT E x none none h' cells slots) (e2 : h = h') (dg : decode cc pc = .ok (.return_, 1)) : jG E x cells slots pc lv [] h := by
  subst e2
  exact jG_return F T dg
theorem jG_baseXN (F : jF E x own cc nL d cm sm) {lv : List Value} {index : Nat} (hw : Cond.fieldLinkNest own index "JumpDiscs" "BASE_X" "[I" "JumpDiscs" ∈ jNW) (dg : decode cc pc = .ok (.getstatic index, 3)) (k : jG E x cells slots (pc + 3) lv (.ref E.2.2.2.2.1 :: st) h) : jG E x cells slots pc lv st h :=
  fun H locs ls hl hH hS => va_getsN F.1 F.2.1 F.2.2.2.2.2.1.2.2.2.1.1 hS F.2.2.2.1 (va_Nw.use rfl (F.2.2.2.2.2.1.2.2.1 _ hw)) (fun _ q => q) dg (k H locs ls hl hH hS)
theorem jG_baseYN (F : jF E x own cc nL d cm sm) {lv : List Value} {index : Nat} (hw : Cond.fieldLinkNest own index "JumpDiscs" "BASE_Y" "[I" "JumpDiscs" ∈ jNW) (dg : decode cc pc = .ok (.getstatic index, 3)) (k : jG E x cells slots (pc + 3) lv (.ref E.2.2.2.2.2.1 :: st) h) : jG E x cells slots pc lv st h :=
  fun H locs ls hl hH hS => va_getsN F.1 F.2.1 F.2.2.2.2.2.1.2.2.2.2.1.1 hS F.2.2.2.1 (va_Nw.use rfl (F.2.2.2.2.2.1.2.2.1 _ hw)) (fun _ q => q) dg (k H locs ls hl hH hS)
theorem jG_placeT (F : jF E x own cc nL d cm sm) {lv : List Value} {index : Nat} (hw : Cond.fieldLink own index "JumpDiscs" "PLACE_TWELFTHS" "[I" ∈ jTB) (dg : decode cc pc = .ok (.getstatic index, 3)) (k : jG E x cells slots (pc + 3) lv (.ref E.2.2.2.2.2.2 :: st) h) : jG E x cells slots pc lv st h :=
  fun H locs ls hl hH hS => va_gets F.1 F.2.1 F.2.2.2.2.2.1.2.2.2.2.2.1 hS F.2.2.2.1 (F.2.2.2.2.1 _ hw) (fun _ q => q) dg (k H locs ls hl hH hS)
end JN
theorem jup (N : Nat) (P : Nat → Prop) (h0 : P N) (hs : ∀ k, k < N → P (k + 1) → P k) : ∀ k, k ≤ N → P k := by
  intro k hk
  obtain ⟨n, hn⟩ : ∃ n, N = k + n := ⟨N - k, by omega⟩
  induction n generalizing k with
  | zero => have : k = N := by omega
            rw [this]; exact h0
  | succ n ih => exact hs k (by omega) (ih (k + 1) (by omega) (by omega))
/-! ===== a Board's cells: the object at i, its three rows behind it ===== -/
abbrev jBT : Type := (Nat → Int32) × (Nat → Int32) × (Nat → Int32) × Int32 × Int32 × Int32
abbrev jbo (E : jE) (i : Nat) (ly cu cd : Int32) : va_E := .inr (1, [.ref (E.1 + (i + 1)), .ref (E.1 + (i + 2)), .ref (E.1 + (i + 3)), .int ly, .int cu, .int cd])
abbrev jar (E : jE) (n : Nat) (f : Nat → Int32) : va_E := .inl (E.2.2.1, n, .inl f)
def jp6 (E : jE) (h : List va_E) (i : Nat) (xs ys cv : Nat → Int32) (ly cu cd : Int32) : List va_E := (((h.set i (jbo E i ly cu cd)).set (i + 1) (jar E 16 xs)).set (i + 2) (jar E 16 ys)).set (i + 3) (jar E 16 cv)
abbrev jpB (E : jE) (h : List va_E) (i : Nat) (B : jBT) : List va_E := jp6 E h i B.1 B.2.1 B.2.2.1 B.2.2.2.1 B.2.2.2.2.1 B.2.2.2.2.2
section JB
variable {E : jE} {h : List va_E} {i : Nat} {xs ys cv f : Nat → Int32} {ly cu cd v : Int32}
theorem jset_ext {a b : List va_E} (h : ∀ j : Nat, a[j]? = b[j]?) : a = b := List.ext_getElem? h
theorem jpB_len : (jp6 E h i xs ys cv ly cu cd).length = h.length := by simp [jp6]
theorem jpB_o (hi : i + 3 < h.length) : (jp6 E h i xs ys cv ly cu cd)[i]? = some (jbo E i ly cu cd) := by
  simp [jp6, List.getElem?_set, show i < h.length by omega]
theorem jpB_x (hi : i + 3 < h.length) : (jp6 E h i xs ys cv ly cu cd)[i + 1]? = some (jar E 16 xs) := by
  simp [jp6, List.getElem?_set, show i + 1 < h.length by omega]
theorem jpB_y (hi : i + 3 < h.length) : (jp6 E h i xs ys cv ly cu cd)[i + 2]? = some (jar E 16 ys) := by
  simp [jp6, List.getElem?_set, show i + 2 < h.length by omega]
theorem jpB_c (hi : i + 3 < h.length) : (jp6 E h i xs ys cv ly cu cd)[i + 3]? = some (jar E 16 cv) := by
  simp [jp6, List.getElem?_set, hi]
theorem jpB_ne {j : Nat} (h0 : j ≠ i) (h1 : j ≠ i + 1) (h2 : j ≠ i + 2) (h3 : j ≠ i + 3) : (jp6 E h i xs ys cv ly cu cd)[j]? = h[j]? := by
  simp [jp6, List.getElem?_set, h0.symm, h1.symm, h2.symm, h3.symm]
theorem jpB_put_lying : (jp6 E h i xs ys cv ly cu cd).set i (.inr (1, [.ref (E.1 + (i + 1)), .ref (E.1 + (i + 2)), .ref (E.1 + (i + 3)), .int ly, .int cu, .int cd].set 3 (.int v))) = jp6 E h i xs ys cv v cu cd := by
  apply jset_ext; intro j
  simp only [jp6, List.getElem?_set, List.length_set]
  by_cases e : i = j
  · subst e; simp
  · simp [e]
theorem jpB_put_inCup : (jp6 E h i xs ys cv ly cu cd).set i (.inr (1, [.ref (E.1 + (i + 1)), .ref (E.1 + (i + 2)), .ref (E.1 + (i + 3)), .int ly, .int cu, .int cd].set 4 (.int v))) = jp6 E h i xs ys cv ly v cd := by
  apply jset_ext; intro j
  simp only [jp6, List.getElem?_set, List.length_set]
  by_cases e : i = j
  · subst e; simp
  · simp [e]
theorem jpB_put_covered : (jp6 E h i xs ys cv ly cu cd).set i (.inr (1, [.ref (E.1 + (i + 1)), .ref (E.1 + (i + 2)), .ref (E.1 + (i + 3)), .int ly, .int cu, .int cd].set 5 (.int v))) = jp6 E h i xs ys cv ly cu v := by
  apply jset_ext; intro j
  simp only [jp6, List.getElem?_set, List.length_set]
  by_cases e : i = j
  · subst e; simp
  · simp [e]
theorem jpB_st_x : (jp6 E h i xs ys cv ly cu cd).set (i + 1) (jar E 16 f) = jp6 E h i f ys cv ly cu cd := by
  apply jset_ext; intro j
  simp only [jp6, List.getElem?_set, List.length_set]
  by_cases e : i + 1 = j
  · subst e; simp
  · simp [e]
theorem jpB_st_y : (jp6 E h i xs ys cv ly cu cd).set (i + 2) (jar E 16 f) = jp6 E h i xs f cv ly cu cd := by
  apply jset_ext; intro j
  simp only [jp6, List.getElem?_set, List.length_set]
  by_cases e : i + 2 = j
  · subst e; simp
  · simp [e]
theorem jpB_st_c : (jp6 E h i xs ys cv ly cu cd).set (i + 3) (jar E 16 f) = jp6 E h i xs ys f ly cu cd := by
  apply jset_ext; intro j
  simp only [jp6, List.getElem?_set, List.length_set]
  by_cases e : i + 3 = j
  · subst e; simp
  · simp [e]
theorem jpB_same (hi : i + 3 < h.length) (ho : h[i]? = some (jbo E i ly cu cd)) (hx : h[i + 1]? = some (jar E 16 xs)) (hy : h[i + 2]? = some (jar E 16 ys)) (hc : h[i + 3]? = some (jar E 16 cv)) : jp6 E h i xs ys cv ly cu cd = h := by
  apply jset_ext; intro j
  by_cases e3 : i + 3 = j
  · subst e3; rw [jpB_c hi, hc]
  · by_cases e2 : i + 2 = j
    · subst e2; rw [jpB_y hi, hy]
    · by_cases e1 : i + 1 = j
      · subst e1; rw [jpB_x hi, hx]
      · by_cases e0 : i = j
        · subst e0; rw [jpB_o hi, ho]
        · rw [jpB_ne (Ne.symm e0) (Ne.symm e1) (Ne.symm e2) (Ne.symm e3)]
theorem jpB_twice {xs2 ys2 cv2 : Nat → Int32} {ly2 cu2 cd2 : Int32} : jp6 E (jp6 E h i xs ys cv ly cu cd) i xs2 ys2 cv2 ly2 cu2 cd2 = jp6 E h i xs2 ys2 cv2 ly2 cu2 cd2 := by
  apply jset_ext; intro j
  by_cases e3 : i + 3 = j
  · subst e3; simp [jp6, List.getElem?_set]
  · by_cases e2 : i + 2 = j
    · subst e2; simp [jp6, List.getElem?_set]
    · by_cases e1 : i + 1 = j
      · subst e1; simp [jp6, List.getElem?_set]
      · by_cases e0 : i = j
        · subst e0; simp [jp6, List.getElem?_set]
        · rw [jpB_ne (Ne.symm e0) (Ne.symm e1) (Ne.symm e2) (Ne.symm e3), jpB_ne (Ne.symm e0) (Ne.symm e1) (Ne.symm e2) (Ne.symm e3), jpB_ne (Ne.symm e0) (Ne.symm e1) (Ne.symm e2) (Ne.symm e3)]
end JB
end
section
/-! ===== static helpers of JumpDiscs and Game: what they answer ===== -/
def jbit (d : Nat) : Int32 := (1 : Int32) <<< (nI d &&& 31)
def jway (a b c e : Int32) : Int32 := if (if 0 ≤ c - a then c - a else 0 - (c - a)) < (if 0 ≤ e - b then e - b else 0 - (e - b)) then (if 0 ≤ e - b then e - b else 0 - (e - b)) else (if 0 ≤ c - a then c - a else 0 - (c - a))
def jB01 (c : Prop) [Decidable c] : Int32 := if c then 1 else 0
theorem jnarb (c : Prop) [Decidable c] : narrow .boolean (.int (jB01 c)) = .int (jB01 c) := by
  unfold jB01; split <;> rfl
theorem jB01_pos {c : Prop} [Decidable c] (h : c) : jB01 c = 1 := if_pos h
theorem jB01_neg {c : Prop} [Decidable c] (h : ¬ c) : jB01 c = 0 := if_neg h
theorem jB01_ne {c : Prop} [Decidable c] (h : ¬ jB01 c = 0) : c := Classical.byContradiction fun q => h (if_neg q)
theorem jB01_eq {c : Prop} [Decidable c] (h : jB01 c = 0) : ¬ c := fun q => absurd ((if_pos q).symm.trans h) (by decide)
theorem jcat0 : ∀ v ∈ ([] : List Value), v.category = 1 := fun _ h => absurd h List.not_mem_nil
section ST
variable {l : Launch} {E : jE} {h : List va_E}
theorem c_X5_within {v lo hi : Int32} : jMd l E yX5_within cX5_within 3 (some .boolean) 0 [.int v, .int lo, .int hi] h (some (.int (jB01 (lo ≤ v ∧ v ≤ hi)))) h 0 0 := by
  refine jMd_of (by decide) (Nat.le_of_ble_eq_true rfl) (by simp [Value.category]) (by first | rfl | simp [jpB_len]) (fun x hx F T hm => ?_)
  refine jG_iload_n F dX5_within_0 rfl ?_
  refine jG_iload_n F dX5_within_1 rfl ?_
  refine jG_icmp_lt F 14 dX5_within_2 (by decide) (fun q0 => ?_) (fun q0 => ?_)
  · refine jG_iconst F (v := (0 : Int32)) dX5_within_14 (by decide) ?_
    exact jG_iret F T (by clear T F; simp only [jB01, Int32.lt_iff_toInt_lt, Int32.le_iff_toInt_le, Int32.reduceToInt] at *; (repeat' split) <;> first | rfl | omega | (exfalso; omega)) rfl (by first | rfl | exact jnarb _ | (split <;> rfl)) dX5_within_15
  · refine jG_iload_n F dX5_within_5 rfl ?_
    refine jG_iload_n F dX5_within_6 rfl ?_
    refine jG_icmp_gt F 14 dX5_within_7 (by decide) (fun q1 => ?_) (fun q1 => ?_)
    · refine jG_iconst F (v := (0 : Int32)) dX5_within_14 (by decide) ?_
      exact jG_iret F T (by clear T F; simp only [jB01, Int32.lt_iff_toInt_lt, Int32.le_iff_toInt_le, Int32.reduceToInt] at *; (repeat' split) <;> first | rfl | omega | (exfalso; omega)) rfl (by first | rfl | exact jnarb _ | (split <;> rfl)) dX5_within_15
    · refine jG_iconst F (v := (1 : Int32)) dX5_within_10 (by decide) ?_
      refine jG_goto F 15 dX5_within_11 (by decide) ?_
      exact jG_iret F T (by clear T F; simp only [jB01, Int32.lt_iff_toInt_lt, Int32.le_iff_toInt_le, Int32.reduceToInt] at *; (repeat' split) <;> first | rfl | omega | (exfalso; omega)) rfl (by first | rfl | exact jnarb _ | (split <;> rfl)) dX5_within_15
theorem c_X5_isPlayer {v : Int32} : jMd l E yX5_isPlayer cX5_isPlayer 1 (some .boolean) 1 [.int v] h (some (.int (jB01 (0 ≤ v ∧ v ≤ 3)))) h 0 0 := by
  refine jMd_of (by decide) (Nat.le_of_ble_eq_true rfl) (by simp [Value.category]) (by first | rfl | simp [jpB_len]) (fun x hx F T hm => ?_)
  refine jG_iload_n F dX5_isPlayer_0 rfl ?_
  refine jG_iconst F (v := (0 : Int32)) dX5_isPlayer_1 (by decide) ?_
  refine jG_iconst F (v := (3 : Int32)) dX5_isPlayer_2 (by decide) ?_
  refine jc_X5_51 F dX5_isPlayer_3 (c_X5_within) (by decide) (Nat.le_refl 0) (Nat.le_refl 0) (Nat.le_of_ble_eq_true rfl) ?_
  exact jG_iret F T (rfl) rfl (by first | rfl | exact jnarb _ | (split <;> rfl)) dX5_isPlayer_6
theorem c_X5_isDisc {v : Int32} : jMd l E yX5_isDisc cX5_isDisc 1 (some .boolean) 1 [.int v] h (some (.int (jB01 (0 ≤ v ∧ v ≤ 15)))) h 0 0 := by
  refine jMd_of (by decide) (Nat.le_of_ble_eq_true rfl) (by simp [Value.category]) (by first | rfl | simp [jpB_len]) (fun x hx F T hm => ?_)
  refine jG_iload_n F dX5_isDisc_0 rfl ?_
  refine jG_iconst F (v := (0 : Int32)) dX5_isDisc_1 (by decide) ?_
  refine jG_bipush F (v := (15 : Int32)) dX5_isDisc_2 (by decide) ?_
  refine jc_X5_51 F dX5_isDisc_4 (c_X5_within) (by decide) (Nat.le_refl 0) (Nat.le_refl 0) (Nat.le_of_ble_eq_true rfl) ?_
  exact jG_iret F T (rfl) rfl (by first | rfl | exact jnarb _ | (split <;> rfl)) dX5_isDisc_7
theorem c_X5_isPlace {a b : Int32} : jMd l E yX5_isPlace cX5_isPlace 2 (some .boolean) 1 [.int a, .int b] h (some (.int (jB01 ((0 ≤ a ∧ a ≤ 40) ∧ (0 ≤ b ∧ b ≤ 40))))) h 0 0 := by
  refine jMd_of (by decide) (Nat.le_of_ble_eq_true rfl) (by simp [Value.category]) (by first | rfl | simp [jpB_len]) (fun x hx F T hm => ?_)
  refine jG_iload_n F dX5_isPlace_0 rfl ?_
  refine jG_iconst F (v := (0 : Int32)) dX5_isPlace_1 (by decide) ?_
  refine jG_bipush F (v := (40 : Int32)) dX5_isPlace_2 (by decide) ?_
  refine jc_X5_51 F dX5_isPlace_4 (c_X5_within) (by decide) (Nat.le_refl 0) (Nat.le_refl 0) (Nat.le_of_ble_eq_true rfl) ?_
  refine jG_if_eq F 24 dX5_isPlace_7 (by decide) (fun q0 => ?_) (fun q0 => ?_)
  · refine jG_iconst F (v := (0 : Int32)) dX5_isPlace_24 (by decide) ?_
    exact jG_iret F T (by first | exact (jB01_neg (fun q => jB01_eq (by assumption) q.1)).symm | exact (jB01_neg (fun q => jB01_eq (by assumption) q.2)).symm | exact (jB01_pos ⟨jB01_ne (by assumption), jB01_ne (by assumption)⟩).symm) rfl (by first | rfl | exact jnarb _ | (split <;> rfl)) dX5_isPlace_25
  · refine jG_iload_n F dX5_isPlace_10 rfl ?_
    refine jG_iconst F (v := (0 : Int32)) dX5_isPlace_11 (by decide) ?_
    refine jG_bipush F (v := (40 : Int32)) dX5_isPlace_12 (by decide) ?_
    refine jc_X5_51 F dX5_isPlace_14 (c_X5_within) (by decide) (Nat.le_refl 0) (Nat.le_refl 0) (Nat.le_of_ble_eq_true rfl) ?_
    refine jG_if_eq F 24 dX5_isPlace_17 (by decide) (fun q1 => ?_) (fun q1 => ?_)
    · refine jG_iconst F (v := (0 : Int32)) dX5_isPlace_24 (by decide) ?_
      exact jG_iret F T (by first | exact (jB01_neg (fun q => jB01_eq (by assumption) q.1)).symm | exact (jB01_neg (fun q => jB01_eq (by assumption) q.2)).symm | exact (jB01_pos ⟨jB01_ne (by assumption), jB01_ne (by assumption)⟩).symm) rfl (by first | rfl | exact jnarb _ | (split <;> rfl)) dX5_isPlace_25
    · refine jG_iconst F (v := (1 : Int32)) dX5_isPlace_20 (by decide) ?_
      refine jG_goto F 25 dX5_isPlace_21 (by decide) ?_
      exact jG_iret F T (by first | exact (jB01_neg (fun q => jB01_eq (by assumption) q.1)).symm | exact (jB01_neg (fun q => jB01_eq (by assumption) q.2)).symm | exact (jB01_pos ⟨jB01_ne (by assumption), jB01_ne (by assumption)⟩).symm) rfl (by first | rfl | exact jnarb _ | (split <;> rfl)) dX5_isPlace_25
theorem c_X5_isMarkOrPlace {a b : Int32} : jMd l E yX5_isMarkOrPlace cX5_isMarkOrPlace 2 (some .boolean) 2 [.int a, .int b] h (some (.int (jB01 (((0 ≤ a ∧ a ≤ 40) ∧ (0 ≤ b ∧ b ≤ 40)) ∨ (a = b ∧ (a = -1 ∨ a = 41)))))) h 0 0 := by
  refine jMd_of (by decide) (Nat.le_of_ble_eq_true rfl) (by simp [Value.category]) (by first | rfl | simp [jpB_len]) (fun x hx F T hm => ?_)
  refine jG_iload_n F dX5_isMarkOrPlace_0 rfl ?_
  refine jG_iload_n F dX5_isMarkOrPlace_1 rfl ?_
  refine jc_X5_117 F dX5_isMarkOrPlace_2 (c_X5_isPlace) (by decide) (Nat.le_refl 0) (Nat.le_refl 0) (Nat.le_of_ble_eq_true rfl) ?_
  refine jG_if_ne F 24 dX5_isMarkOrPlace_5 (by decide) (fun q0 => ?_) (fun q0 => ?_)
  · refine jG_iconst F (v := (1 : Int32)) dX5_isMarkOrPlace_24 (by decide) ?_
    refine jG_goto F 29 dX5_isMarkOrPlace_25 (by decide) ?_
    exact jG_iret F T (by simp_all [jB01]) rfl (by first | rfl | exact jnarb _ | (split <;> rfl)) dX5_isMarkOrPlace_29
  · refine jG_iload_n F dX5_isMarkOrPlace_8 rfl ?_
    refine jG_iload_n F dX5_isMarkOrPlace_9 rfl ?_
    refine jG_icmp_ne F 28 dX5_isMarkOrPlace_10 (by decide) (fun q1 => ?_) (fun q1 => ?_)
    · refine jG_iconst F (v := (0 : Int32)) dX5_isMarkOrPlace_28 (by decide) ?_
      exact jG_iret F T (by simp_all [jB01]) rfl (by first | rfl | exact jnarb _ | (split <;> rfl)) dX5_isMarkOrPlace_29
    · refine jG_iload_n F dX5_isMarkOrPlace_13 rfl ?_
      refine jG_iconst F (v := (-1 : Int32)) dX5_isMarkOrPlace_14 (by decide) ?_
      refine jG_icmp_eq F 24 dX5_isMarkOrPlace_15 (by decide) (fun q2 => ?_) (fun q2 => ?_)
      · refine jG_iconst F (v := (1 : Int32)) dX5_isMarkOrPlace_24 (by decide) ?_
        refine jG_goto F 29 dX5_isMarkOrPlace_25 (by decide) ?_
        exact jG_iret F T (by simp_all [jB01]) rfl (by first | rfl | exact jnarb _ | (split <;> rfl)) dX5_isMarkOrPlace_29
      · refine jG_iload_n F dX5_isMarkOrPlace_18 rfl ?_
        refine jG_bipush F (v := (41 : Int32)) dX5_isMarkOrPlace_19 (by decide) ?_
        refine jG_icmp_ne F 28 dX5_isMarkOrPlace_21 (by decide) (fun q3 => ?_) (fun q3 => ?_)
        · refine jG_iconst F (v := (0 : Int32)) dX5_isMarkOrPlace_28 (by decide) ?_
          exact jG_iret F T (by simp_all [jB01]) rfl (by first | rfl | exact jnarb _ | (split <;> rfl)) dX5_isMarkOrPlace_29
        · refine jG_iconst F (v := (1 : Int32)) dX5_isMarkOrPlace_24 (by decide) ?_
          refine jG_goto F 29 dX5_isMarkOrPlace_25 (by decide) ?_
          exact jG_iret F T (by simp_all [jB01]) rfl (by first | rfl | exact jnarb _ | (split <;> rfl)) dX5_isMarkOrPlace_29
theorem c_X5_playerOf {k : Nat} (hk : k < 16) : jMd l E yX5_playerOf cX5_playerOf 1 (some .int) 0 [.int (nI k)] h (some (.int (nI (k % 4)))) h 0 0 := by
  refine jMd_of (by decide) (Nat.le_of_ble_eq_true rfl) (by simp [Value.category]) (by first | rfl | simp [jpB_len]) (fun x hx F T hm => ?_)
  refine jG_iload_n F dX5_playerOf_0 rfl ?_
  refine jG_iconst F (v := nI 4) dX5_playerOf_1 (by decide) ?_
  refine jG_irem F dX5_playerOf_2 (by decide) ?_
  exact jG_iret F T (pk_rem (by omega) (by decide) (by decide)) rfl (by first | rfl | exact jnarb _ | (split <;> rfl)) dX5_playerOf_3
theorem c_X5_sizeOf {v : Int32} : jMd l E yX5_sizeOf cX5_sizeOf 1 (some .int) 0 [.int v] h (some (.int (if v < 8 then 1 else 2))) h 0 0 := by
  refine jMd_of (by decide) (Nat.le_of_ble_eq_true rfl) (by simp [Value.category]) (by first | rfl | simp [jpB_len]) (fun x hx F T hm => ?_)
  refine jG_iload_n F dX5_sizeOf_0 rfl ?_
  refine jG_bipush F (v := (8 : Int32)) dX5_sizeOf_1 (by decide) ?_
  refine jG_icmp_ge F 10 dX5_sizeOf_3 (by decide) (fun q0 => ?_) (fun q0 => ?_)
  · refine jG_iconst F (v := (2 : Int32)) dX5_sizeOf_10 (by decide) ?_
    exact jG_iret F T (by simp [*]) rfl (by first | rfl | exact jnarb _ | (split <;> rfl)) dX5_sizeOf_11
  · refine jG_iconst F (v := (1 : Int32)) dX5_sizeOf_6 (by decide) ?_
    refine jG_goto F 11 dX5_sizeOf_7 (by decide) ?_
    exact jG_iret F T (by simp [*]) rfl (by first | rfl | exact jnarb _ | (split <;> rfl)) dX5_sizeOf_11
theorem c_X5_wayBetween {a b c e : Int32} : jMd l E yX5_wayBetween cX5_wayBetween 4 (some .int) 1 [.int a, .int b, .int c, .int e] h (some (.int (jway a b c e))) h 0 0 := by
  refine jMd_of (by decide) (Nat.le_of_ble_eq_true rfl) (by simp [Value.category]) (by first | rfl | simp [jpB_len]) (fun x hx F T hm => ?_)
  refine jG_iload_n F dX5_wayBetween_0 rfl ?_
  refine jG_iload_n F dX5_wayBetween_1 rfl ?_
  refine jG_isub F dX5_wayBetween_2 ?_
  refine jc_X5_204 F dX5_wayBetween_3 (by decide) (Nat.le_of_ble_eq_true rfl) ?_
  refine jG_iload_n F dX5_wayBetween_6 rfl ?_
  refine jG_iload_n F dX5_wayBetween_7 rfl ?_
  refine jG_isub F dX5_wayBetween_8 ?_
  refine jc_X5_204 F dX5_wayBetween_9 (by decide) (Nat.le_of_ble_eq_true rfl) ?_
  refine jc_X5_236 F dX5_wayBetween_12 (by decide) (Nat.le_of_ble_eq_true rfl) ?_
  exact jG_iret F T (rfl) rfl (by first | rfl | exact jnarb _ | (split <;> rfl)) dX5_wayBetween_15
theorem c_X2_nextInRound {k : Nat} (hk : k < 4) : jMd l E yX2_nextInRound cX2_nextInRound 1 (some .int) 0 [.int (nI k)] h (some (.int (nI ((k + 1) % 4)))) h 0 0 := by
  refine jMd_of (by decide) (Nat.le_of_ble_eq_true rfl) (by simp [Value.category]) (by first | rfl | simp [jpB_len]) (fun x hx F T hm => ?_)
  refine jG_iload_n F dX2_nextInRound_0 rfl ?_
  refine jG_iconst F (v := nI 1) dX2_nextInRound_1 (by decide) ?_
  refine jG_iadd F dX2_nextInRound_2 ?_
  refine jG_iconst F (v := nI 4) dX2_nextInRound_3 (by decide) ?_
  refine jG_irem F dX2_nextInRound_4 (by decide) ?_
  exact jG_iret F T (by rw [nI_add]; exact pk_rem (by omega) (by decide) (by decide)) rfl (by first | rfl | exact jnarb _ | (split <;> rfl)) dX2_nextInRound_5
theorem c_X2_doesCupTake {a b : Int32} : jMd l E yX2_doesCupTake cX2_doesCupTake 4 (some .boolean) 0 [.int a, .int b] h (some (.int (jB01 ((a - 20) * (a - 20) + (b - 20) * (b - 20) ≤ 4)))) h 0 0 := by
  refine jMd_of (by decide) (Nat.le_of_ble_eq_true rfl) (by simp [Value.category]) (by first | rfl | simp [jpB_len]) (fun x hx F T hm => ?_)
  refine jG_iload_n F dX2_doesCupTake_0 rfl ?_
  refine jG_bipush F (v := (20 : Int32)) dX2_doesCupTake_1 (by decide) ?_
  refine jG_isub F dX2_doesCupTake_3 ?_
  refine jG_istore_n_2n F dX2_doesCupTake_4 (by decide) ?_
  refine jG_iload_n F dX2_doesCupTake_5 rfl ?_
  refine jG_bipush F (v := (20 : Int32)) dX2_doesCupTake_6 (by decide) ?_
  refine jG_isub F dX2_doesCupTake_8 ?_
  refine jG_istore_n_3n F dX2_doesCupTake_9 (by decide) ?_
  refine jG_iload_n F dX2_doesCupTake_10 rfl ?_
  refine jG_iload_n F dX2_doesCupTake_11 rfl ?_
  refine jG_imul F dX2_doesCupTake_12 ?_
  refine jG_iload_n F dX2_doesCupTake_13 rfl ?_
  refine jG_iload_n F dX2_doesCupTake_14 rfl ?_
  refine jG_imul F dX2_doesCupTake_15 ?_
  refine jG_iadd F dX2_doesCupTake_16 ?_
  refine jG_iconst F (v := (4 : Int32)) dX2_doesCupTake_17 (by decide) ?_
  refine jG_icmp_gt F 25 dX2_doesCupTake_18 (by decide) (fun q0 => ?_) (fun q0 => ?_)
  · refine jG_iconst F (v := (0 : Int32)) dX2_doesCupTake_25 (by decide) ?_
    exact jG_iret F T (by clear T F; simp only [jB01, Int32.lt_iff_toInt_lt, Int32.le_iff_toInt_le, Int32.reduceToInt] at *; (repeat' split) <;> first | rfl | omega | (exfalso; omega)) rfl (by first | rfl | exact jnarb _ | (split <;> rfl)) dX2_doesCupTake_26
  · refine jG_iconst F (v := (1 : Int32)) dX2_doesCupTake_21 (by decide) ?_
    refine jG_goto F 26 dX2_doesCupTake_22 (by decide) ?_
    exact jG_iret F T (by clear T F; simp only [jB01, Int32.lt_iff_toInt_lt, Int32.le_iff_toInt_le, Int32.reduceToInt] at *; (repeat' split) <;> first | rfl | omega | (exfalso; omega)) rfl (by first | rfl | exact jnarb _ | (split <;> rfl)) dX2_doesCupTake_26
def jmat (v : Int32) : Int32 := if 0 < (if v < 40 then v else 40) then (if v < 40 then v else 40) else 0
theorem c_X2_nearestOnMat {v : Int32} : jMd l E yX2_nearestOnMat cX2_nearestOnMat 1 (some .int) 1 [.int v] h (some (.int (jmat v))) h 0 0 := by
  refine jMd_of (by decide) (Nat.le_of_ble_eq_true rfl) (by simp [Value.category]) (by first | rfl | simp [jpB_len]) (fun x hx F T hm => ?_)
  refine jG_iconst F (v := (0 : Int32)) dX2_nearestOnMat_0 (by decide) ?_
  refine jG_bipush F (v := (40 : Int32)) dX2_nearestOnMat_1 (by decide) ?_
  refine jG_iload_n F dX2_nearestOnMat_3 rfl ?_
  refine jc_X2_120 F dX2_nearestOnMat_4 (by decide) (Nat.le_of_ble_eq_true rfl) ?_
  refine jc_X2_126 F dX2_nearestOnMat_7 (by decide) (Nat.le_of_ble_eq_true rfl) ?_
  exact jG_iret F T (rfl) rfl (by first | rfl | exact jnarb _ | (split <;> rfl)) dX2_nearestOnMat_10
def jsgn (v : Int32) : Int32 := if 0 < v then 1 else if v < 0 then -1 else 0
theorem c_X2_signOf {v : Int32} : jMd l E yX2_signOf cX2_signOf 1 (some .int) 0 [.int v] h (some (.int (jsgn v))) h 0 0 := by
  refine jMd_of (by decide) (Nat.le_of_ble_eq_true rfl) (by simp [Value.category]) (by first | rfl | simp [jpB_len]) (fun x hx F T hm => ?_)
  refine jG_iload_n F dX2_signOf_0 rfl ?_
  refine jG_if_le F 8 dX2_signOf_1 (by decide) (fun q0 => ?_) (fun q0 => ?_)
  · refine jG_iload_n F dX2_signOf_8 rfl ?_
    refine jG_if_ge F 16 dX2_signOf_9 (by decide) (fun q1 => ?_) (fun q1 => ?_)
    · refine jG_iconst F (v := (0 : Int32)) dX2_signOf_16 (by decide) ?_
      exact jG_iret F T (by unfold jsgn; clear T F; simp only [Int32.lt_iff_toInt_lt, Int32.le_iff_toInt_le, Int32.reduceToInt] at *; (repeat' split) <;> first | rfl | omega | (exfalso; omega)) rfl (by first | rfl | exact jnarb _ | (split <;> rfl)) dX2_signOf_17
    · refine jG_iconst F (v := (-1 : Int32)) dX2_signOf_12 (by decide) ?_
      refine jG_goto F 17 dX2_signOf_13 (by decide) ?_
      exact jG_iret F T (by unfold jsgn; clear T F; simp only [Int32.lt_iff_toInt_lt, Int32.le_iff_toInt_le, Int32.reduceToInt] at *; (repeat' split) <;> first | rfl | omega | (exfalso; omega)) rfl (by first | rfl | exact jnarb _ | (split <;> rfl)) dX2_signOf_17
  · refine jG_iconst F (v := (1 : Int32)) dX2_signOf_4 (by decide) ?_
    refine jG_goto F 17 dX2_signOf_5 (by decide) ?_
    exact jG_iret F T (by unfold jsgn; clear T F; simp only [Int32.lt_iff_toInt_lt, Int32.le_iff_toInt_le, Int32.reduceToInt] at *; (repeat' split) <;> first | rfl | omega | (exfalso; omega)) rfl (by first | rfl | exact jnarb _ | (split <;> rfl)) dX2_signOf_17
end ST
end
section
/-! ===== Board: its methods ===== -/
abbrev jts (m : Int32) (d : Nat) : Prop := ¬ m &&& jbit d = 0
/-- bits gathered: from c on, the bits k < n of which p holds -/
def jorI (c : Int32) (p : Nat → Bool) : Nat → Int32
  | 0 => c
  | n + 1 => if p n = true then jorI c p n ||| jbit n else jorI c p n
theorem jorI_t {c : Int32} {p : Nat → Bool} {n : Nat} (h : p n = true) : jorI c p (n + 1) = jorI c p n ||| jbit n := if_pos h
theorem jorI_f {c : Int32} {p : Nat → Bool} {n : Nat} (h : ¬ p n = true) : jorI c p (n + 1) = jorI c p n := if_neg h
theorem jinc (k : Nat) : nI k + Int32.ofInt 1 = nI (k + 1) := nI_1 k
/-- a row that is filled from its start -/
def jfil (f g : Nat → Int32) (n : Nat) : Nat → Int32 := fun k => if k < n then f k else g k
theorem jfil_0 (f g : Nat → Int32) : jfil f g 0 = g := by funext k; simp [jfil]
theorem jfil_at (f g : Nat → Int32) (n : Nat) : jfil f g n n = g n := by simp [jfil]
theorem jfil_s (f g : Nat → Int32) (n : Nat) {v : Int32} (h : v = f n) : upd (jfil f g n) n v = jfil f g (n + 1) := by
  subst h
  funext k
  unfold jfil upd
  by_cases e : k = n
  · subst e; simp
  · by_cases e2 : k < n
    · simp [e, e2, Nat.lt_succ_of_lt e2]
    · have : ¬ k < n + 1 := by omega
      simp [e, e2, this]
theorem jfil_k (f g : Nat → Int32) (n : Nat) (h : g n = f n) : jfil f g n = jfil f g (n + 1) := by
  funext k
  unfold jfil
  by_cases e2 : k < n
  · simp [e2, Nat.lt_succ_of_lt e2]
  · by_cases e : k = n
    · subst e; simp [h]
    · have : ¬ k < n + 1 := by omega
      simp [e2, this]
def joth (d : Nat) : Int32 := jbit d ^^^ (-1)
/-- lift: the DISC d is taken from where it is -/
def jliftF (B : jBT) (d : Nat) : jBT :=
  if B.2.2.2.1 &&& jbit d = 0 then (B.1, B.2.1, B.2.2.1, B.2.2.2.1, B.2.2.2.2.1 &&& joth d, B.2.2.2.2.2)
  else (B.1, B.2.1, jfil (fun o => upd B.2.2.1 d 0 o &&& joth d) (upd B.2.2.1 d 0) 16, B.2.2.2.1 &&& joth d, B.2.2.2.2.1 &&& joth d, jorI 0 (fun o => decide (¬ upd B.2.2.1 d 0 o &&& joth d = 0)) 16)
def jsz (v : Int32) : Int32 := if v < 8 then 1 else 2
def jovb (xs ys : Nat → Int32) (d o : Nat) : Bool := decide ((xs d - xs o) * (xs d - xs o) + (ys d - ys o) * (ys d - ys o) < (jsz (nI d) + jsz (nI o)) * (jsz (nI d) + jsz (nI o)))
/-- which DISCS the DISC d comes to lie on -/
def jhit (xs ys : Nat → Int32) (ly : Int32) (d o : Nat) : Bool := decide (jts ly o) && jovb xs ys d o
/-- d has its place in xs, ys already: what it covers, and that it lies -/
def jlayF (B : jBT) (d : Nat) : jBT :=
  (B.1, B.2.1, jfil (fun o => if jhit B.1 B.2.1 B.2.2.2.1 d o then B.2.2.1 o ||| jbit d else B.2.2.1 o) B.2.2.1 16, B.2.2.2.1 ||| jbit d, B.2.2.2.2.1, jorI B.2.2.2.2.2 (jhit B.1 B.2.1 B.2.2.2.1 d) 16)
def jputF (B : jBT) (d : Nat) (a b : Int32) : jBT := (upd B.1 d a, upd B.2.1 d b, B.2.2)
/-- bring -/
def jbringF (B : jBT) (d : Nat) (a b : Int32) : jBT :=
  if a = -1 then jputF (jliftF B d) d (jtabX (d % 4)) (jtabY (d % 4))
  else if a = 41 then ((jputF (jliftF B d) d a b).1, (jputF (jliftF B d) d a b).2.1, (jputF (jliftF B d) d a b).2.2.1, (jputF (jliftF B d) d a b).2.2.2.1, (jputF (jliftF B d) d a b).2.2.2.2.1 ||| jbit d, (jputF (jliftF B d) d a b).2.2.2.2.2)
  else jlayF (jputF (jliftF B d) d a b) d
def jallF (B : jBT) : Nat → jBT
  | 0 => B
  | k + 1 => jbringF (jallF B k) k (-1) (-1)
/-- withNeighbours -/
def jwnF (cv : Nat → Int32) (g : Int32) : Nat → Int32
  | 0 => g
  | k + 1 => if ¬ jwnF cv g k &&& jbit k = 0 then jwnF cv g k ||| cv k else if ¬ jwnF cv g k &&& cv k = 0 then jwnF cv g k ||| jbit k else jwnF cv g k
def jpilF (cv : Nat → Int32) (g : Int32) : Nat → Int32
  | 0 => g
  | k + 1 => jwnF cv (jpilF cv g k) 16
def jpile (cv : Nat → Int32) (ly : Int32) (d : Nat) : Int32 := if ly &&& jbit d = 0 then 0 else jpilF cv (jbit d) 16
def jbc1 (v : Int32) : Int32 := v - ((v.toUInt32 >>> ((1 : Int32).toUInt32 &&& Int32.toUInt32 31)).toInt32 &&& 1431655765)
def jbc2 (v : Int32) : Int32 := (v &&& 858993459) + ((v.toUInt32 >>> ((2 : Int32).toUInt32 &&& Int32.toUInt32 31)).toInt32 &&& 858993459)
def jbc3 (v : Int32) : Int32 := (v + (v.toUInt32 >>> ((4 : Int32).toUInt32 &&& Int32.toUInt32 31)).toInt32) &&& 252645135
def jbc4 (v : Int32) : Int32 := v + (v.toUInt32 >>> ((8 : Int32).toUInt32 &&& Int32.toUInt32 31)).toInt32
def jbc5 (v : Int32) : Int32 := v + (v.toUInt32 >>> ((16 : Int32).toUInt32 &&& Int32.toUInt32 31)).toInt32
/-- Integer.bitCount -/
def jbc (v : Int32) : Int32 := jbc5 (jbc4 (jbc3 (jbc2 (jbc1 v)))) &&& 63
def jfree (cu cd : Int32) (p : Nat) : Int32 := ((4369 : Int32) <<< (nI p &&& 31)) &&& ((cu ||| cd) ^^^ (-1))
def jscore (ly cu cd : Int32) (p : Nat) : Int32 := 3 * jbc (cu &&& ((4369 : Int32) <<< (nI p &&& 31))) + jbc (jfree cu cd p &&& ly)
abbrev janyin (cu : Int32) : Prop := ¬ ((cu &&& (cu >>> ((4 : Int32) &&& 31))) &&& (cu >>> ((8 : Int32) &&& 31))) &&& (cu >>> ((12 : Int32) &&& 31)) = 0
section BO
variable {l : Launch} {E : jE} {h : List va_E} {i d : Nat} {xs ys cv : Nat → Int32} {ly cu cd : Int32}
theorem c_J6_bitCount_0f7a4 {v : Int32} : jMd l E yJ6_bitCount_0f7a4 cJ6_bitCount_0f7a4 1 (some .int) 0 [.int v] h (some (.int (jbc v))) h 0 0 := by
  refine jMd_of (by decide) (Nat.le_of_ble_eq_true rfl) (by simp [Value.category]) (by first | rfl | simp [jpB_len]) (fun x hx F T hm => ?_)
  refine jG_iload_n F dJ6_bitCount_0f7a4_0 rfl ?_
  refine jG_iload_n F dJ6_bitCount_0f7a4_1 rfl ?_
  refine jG_iconst F (v := (1 : Int32)) dJ6_bitCount_0f7a4_2 (by decide) ?_
  refine jG_iushr F dJ6_bitCount_0f7a4_3 rfl ?_
  refine jG_ldcw F (v := 1431655765) dJ6_bitCount_0f7a4_4 (by decide +kernel) ?_
  refine jG_iand F dJ6_bitCount_0f7a4_7 ?_
  refine jG_isub F dJ6_bitCount_0f7a4_8 ?_
  refine jG_istore_n_0e F dJ6_bitCount_0f7a4_9 (by decide) ?_
  refine jG_iload_n F dJ6_bitCount_0f7a4_10 rfl ?_
  refine jG_ldcw F (v := 858993459) dJ6_bitCount_0f7a4_11 (by decide +kernel) ?_
  refine jG_iand F dJ6_bitCount_0f7a4_14 ?_
  refine jG_iload_n F dJ6_bitCount_0f7a4_15 rfl ?_
  refine jG_iconst F (v := (2 : Int32)) dJ6_bitCount_0f7a4_16 (by decide) ?_
  refine jG_iushr F dJ6_bitCount_0f7a4_17 rfl ?_
  refine jG_ldcw F (v := 858993459) dJ6_bitCount_0f7a4_18 (by decide +kernel) ?_
  refine jG_iand F dJ6_bitCount_0f7a4_21 ?_
  refine jG_iadd F dJ6_bitCount_0f7a4_22 ?_
  refine jG_istore_n_0e F dJ6_bitCount_0f7a4_23 (by decide) ?_
  refine jG_iload_n F dJ6_bitCount_0f7a4_24 rfl ?_
  refine jG_iload_n F dJ6_bitCount_0f7a4_25 rfl ?_
  refine jG_iconst F (v := (4 : Int32)) dJ6_bitCount_0f7a4_26 (by decide) ?_
  refine jG_iushr F dJ6_bitCount_0f7a4_27 rfl ?_
  refine jG_iadd F dJ6_bitCount_0f7a4_28 ?_
  refine jG_ldcw F (v := 252645135) dJ6_bitCount_0f7a4_29 (by decide +kernel) ?_
  refine jG_iand F dJ6_bitCount_0f7a4_32 ?_
  refine jG_istore_n_0e F dJ6_bitCount_0f7a4_33 (by decide) ?_
  refine jG_iload_n F dJ6_bitCount_0f7a4_34 rfl ?_
  refine jG_iload_n F dJ6_bitCount_0f7a4_35 rfl ?_
  refine jG_bipush F (v := (8 : Int32)) dJ6_bitCount_0f7a4_36 (by decide) ?_
  refine jG_iushr F dJ6_bitCount_0f7a4_38 rfl ?_
  refine jG_iadd F dJ6_bitCount_0f7a4_39 ?_
  refine jG_istore_n_0e F dJ6_bitCount_0f7a4_40 (by decide) ?_
  refine jG_iload_n F dJ6_bitCount_0f7a4_41 rfl ?_
  refine jG_iload_n F dJ6_bitCount_0f7a4_42 rfl ?_
  refine jG_bipush F (v := (16 : Int32)) dJ6_bitCount_0f7a4_43 (by decide) ?_
  refine jG_iushr F dJ6_bitCount_0f7a4_45 rfl ?_
  refine jG_iadd F dJ6_bitCount_0f7a4_46 ?_
  refine jG_istore_n_0e F dJ6_bitCount_0f7a4_47 (by decide) ?_
  refine jG_iload_n F dJ6_bitCount_0f7a4_48 rfl ?_
  refine jG_bipush F (v := (63 : Int32)) dJ6_bitCount_0f7a4_49 (by decide) ?_
  refine jG_iand F dJ6_bitCount_0f7a4_51 ?_
  exact jG_iret F T (rfl) rfl (by first | rfl | exact jnarb _ | (split <;> rfl)) dJ6_bitCount_0f7a4_52
theorem c_X1_doesLie (hi : i + 3 < h.length) : jMd l E yX1_doesLie cX1_doesLie 2 (some .boolean) 0 [.ref (E.1 + i), .int (nI d)] (jp6 E h i xs ys cv ly cu cd) (some (.int (jB01 (jts ly d)))) (jp6 E h i xs ys cv ly cu cd) 0 0 := by
  refine jMd_of (by decide) (Nat.le_of_ble_eq_true rfl) (by simp [Value.category]) (by first | rfl | simp [jpB_len]) (fun x hx F T hm => ?_)
  refine jG_aload_n F dX1_doesLie_0 rfl ?_
  refine jg_X1_21 F dX1_doesLie_1 (jpB_o hi) rfl ?_
  refine jG_iconst F (v := (1 : Int32)) dX1_doesLie_4 (by decide) ?_
  refine jG_iload_n F dX1_doesLie_5 rfl ?_
  refine jG_ishl F dX1_doesLie_6 ?_
  refine jG_iand F dX1_doesLie_7 ?_
  refine jG_if_eq F 15 dX1_doesLie_8 (by decide) (fun q0 => ?_) (fun q0 => ?_)
  · refine jG_iconst F (v := (0 : Int32)) dX1_doesLie_15 (by decide) ?_
    exact jG_iret F T (by first | exact (jB01_neg (fun q => q (by assumption))).symm | exact (jB01_pos (by assumption)).symm) rfl (by first | rfl | exact jnarb _ | (split <;> rfl)) dX1_doesLie_16
  · refine jG_iconst F (v := (1 : Int32)) dX1_doesLie_11 (by decide) ?_
    refine jG_goto F 16 dX1_doesLie_12 (by decide) ?_
    exact jG_iret F T (by first | exact (jB01_neg (fun q => q (by assumption))).symm | exact (jB01_pos (by assumption)).symm) rfl (by first | rfl | exact jnarb _ | (split <;> rfl)) dX1_doesLie_16
theorem c_X1_isInCup (hi : i + 3 < h.length) : jMd l E yX1_isInCup cX1_isInCup 2 (some .boolean) 0 [.ref (E.1 + i), .int (nI d)] (jp6 E h i xs ys cv ly cu cd) (some (.int (jB01 (jts cu d)))) (jp6 E h i xs ys cv ly cu cd) 0 0 := by
  refine jMd_of (by decide) (Nat.le_of_ble_eq_true rfl) (by simp [Value.category]) (by first | rfl | simp [jpB_len]) (fun x hx F T hm => ?_)
  refine jG_aload_n F dX1_isInCup_0 rfl ?_
  refine jg_X1_25 F dX1_isInCup_1 (jpB_o hi) rfl ?_
  refine jG_iconst F (v := (1 : Int32)) dX1_isInCup_4 (by decide) ?_
  refine jG_iload_n F dX1_isInCup_5 rfl ?_
  refine jG_ishl F dX1_isInCup_6 ?_
  refine jG_iand F dX1_isInCup_7 ?_
  refine jG_if_eq F 15 dX1_isInCup_8 (by decide) (fun q0 => ?_) (fun q0 => ?_)
  · refine jG_iconst F (v := (0 : Int32)) dX1_isInCup_15 (by decide) ?_
    exact jG_iret F T (by first | exact (jB01_neg (fun q => q (by assumption))).symm | exact (jB01_pos (by assumption)).symm) rfl (by first | rfl | exact jnarb _ | (split <;> rfl)) dX1_isInCup_16
  · refine jG_iconst F (v := (1 : Int32)) dX1_isInCup_11 (by decide) ?_
    refine jG_goto F 16 dX1_isInCup_12 (by decide) ?_
    exact jG_iret F T (by first | exact (jB01_neg (fun q => q (by assumption))).symm | exact (jB01_pos (by assumption)).symm) rfl (by first | rfl | exact jnarb _ | (split <;> rfl)) dX1_isInCup_16
theorem c_X1_isAtBase (hi : i + 3 < h.length) : jMd l E yX1_isAtBase cX1_isAtBase 2 (some .boolean) 1 [.ref (E.1 + i), .int (nI d)] (jp6 E h i xs ys cv ly cu cd) (some (.int (jB01 (¬ jts ly d ∧ ¬ jts cu d)))) (jp6 E h i xs ys cv ly cu cd) 0 0 := by
  refine jMd_of (by decide) (Nat.le_of_ble_eq_true rfl) (by simp [Value.category]) (by first | rfl | simp [jpB_len]) (fun x hx F T hm => ?_)
  refine jG_aload_n F dX1_isAtBase_0 rfl ?_
  refine jG_iload_n F dX1_isAtBase_1 rfl ?_
  refine jc_X1_58 F dX1_isAtBase_2 (c_X1_doesLie hi) (jpB_o hi) (by decide) (Nat.le_refl 0) (Nat.le_refl 0) (Nat.le_of_ble_eq_true rfl) ?_
  refine jG_if_ne F 20 dX1_isAtBase_5 (by decide) (fun q0 => ?_) (fun q0 => ?_)
  · refine jG_iconst F (v := (0 : Int32)) dX1_isAtBase_20 (by decide) ?_
    exact jG_iret F T (by first | exact (jB01_neg (fun q => q.1 (jB01_ne (by assumption)))).symm | exact (jB01_neg (fun q => q.2 (jB01_ne (by assumption)))).symm | exact (jB01_pos ⟨jB01_eq (by assumption), jB01_eq (by assumption)⟩).symm) rfl (by first | rfl | exact jnarb _ | (split <;> rfl)) dX1_isAtBase_21
  · refine jG_aload_n F dX1_isAtBase_8 rfl ?_
    refine jG_iload_n F dX1_isAtBase_9 rfl ?_
    refine jc_X1_69 F dX1_isAtBase_10 (c_X1_isInCup hi) (jpB_o hi) (by decide) (Nat.le_refl 0) (Nat.le_refl 0) (Nat.le_of_ble_eq_true rfl) ?_
    refine jG_if_ne F 20 dX1_isAtBase_13 (by decide) (fun q1 => ?_) (fun q1 => ?_)
    · refine jG_iconst F (v := (0 : Int32)) dX1_isAtBase_20 (by decide) ?_
      exact jG_iret F T (by first | exact (jB01_neg (fun q => q.1 (jB01_ne (by assumption)))).symm | exact (jB01_neg (fun q => q.2 (jB01_ne (by assumption)))).symm | exact (jB01_pos ⟨jB01_eq (by assumption), jB01_eq (by assumption)⟩).symm) rfl (by first | rfl | exact jnarb _ | (split <;> rfl)) dX1_isAtBase_21
    · refine jG_iconst F (v := (1 : Int32)) dX1_isAtBase_16 (by decide) ?_
      refine jG_goto F 21 dX1_isAtBase_17 (by decide) ?_
      exact jG_iret F T (by first | exact (jB01_neg (fun q => q.1 (jB01_ne (by assumption)))).symm | exact (jB01_neg (fun q => q.2 (jB01_ne (by assumption)))).symm | exact (jB01_pos ⟨jB01_eq (by assumption), jB01_eq (by assumption)⟩).symm) rfl (by first | rfl | exact jnarb _ | (split <;> rfl)) dX1_isAtBase_21
theorem c_X1_isFree (hi : i + 3 < h.length) : jMd l E yX1_isFree cX1_isFree 2 (some .boolean) 0 [.ref (E.1 + i), .int (nI d)] (jp6 E h i xs ys cv ly cu cd) (some (.int (jB01 ((cu ||| cd) &&& jbit d = 0)))) (jp6 E h i xs ys cv ly cu cd) 0 0 := by
  refine jMd_of (by decide) (Nat.le_of_ble_eq_true rfl) (by simp [Value.category]) (by first | rfl | simp [jpB_len]) (fun x hx F T hm => ?_)
  refine jG_aload_n F dX1_isFree_0 rfl ?_
  refine jg_X1_25 F dX1_isFree_1 (jpB_o hi) rfl ?_
  refine jG_aload_n F dX1_isFree_4 rfl ?_
  refine jg_X1_28 F dX1_isFree_5 (jpB_o hi) rfl ?_
  refine jG_ior F dX1_isFree_8 ?_
  refine jG_iconst F (v := (1 : Int32)) dX1_isFree_9 (by decide) ?_
  refine jG_iload_n F dX1_isFree_10 rfl ?_
  refine jG_ishl F dX1_isFree_11 ?_
  refine jG_iand F dX1_isFree_12 ?_
  refine jG_if_ne F 20 dX1_isFree_13 (by decide) (fun q0 => ?_) (fun q0 => ?_)
  · refine jG_iconst F (v := (0 : Int32)) dX1_isFree_20 (by decide) ?_
    exact jG_iret F T (by first | exact (jB01_neg (by assumption)).symm | exact (jB01_pos (by assumption)).symm) rfl (by first | rfl | exact jnarb _ | (split <;> rfl)) dX1_isFree_21
  · refine jG_iconst F (v := (1 : Int32)) dX1_isFree_16 (by decide) ?_
    refine jG_goto F 21 dX1_isFree_17 (by decide) ?_
    exact jG_iret F T (by first | exact (jB01_neg (by assumption)).symm | exact (jB01_pos (by assumption)).symm) rfl (by first | rfl | exact jnarb _ | (split <;> rfl)) dX1_isFree_21
theorem c_X1_freeOf (hi : i + 3 < h.length) : jMd l E yX1_freeOf cX1_freeOf 2 (some .int) 0 [.ref (E.1 + i), .int (nI d)] (jp6 E h i xs ys cv ly cu cd) (some (.int (jfree cu cd d))) (jp6 E h i xs ys cv ly cu cd) 0 0 := by
  refine jMd_of (by decide) (Nat.le_of_ble_eq_true rfl) (by simp [Value.category]) (by first | rfl | simp [jpB_len]) (fun x hx F T hm => ?_)
  refine jG_sipush F (v := (4369 : Int32)) dX1_freeOf_0 (by decide) ?_
  refine jG_iload_n F dX1_freeOf_3 rfl ?_
  refine jG_ishl F dX1_freeOf_4 ?_
  refine jG_aload_n F dX1_freeOf_5 rfl ?_
  refine jg_X1_25 F dX1_freeOf_6 (jpB_o hi) rfl ?_
  refine jG_aload_n F dX1_freeOf_9 rfl ?_
  refine jg_X1_28 F dX1_freeOf_10 (jpB_o hi) rfl ?_
  refine jG_ior F dX1_freeOf_13 ?_
  refine jG_iconst F (v := (-1 : Int32)) dX1_freeOf_14 (by decide) ?_
  refine jG_ixor F dX1_freeOf_15 ?_
  refine jG_iand F dX1_freeOf_16 ?_
  exact jG_iret F T (rfl) rfl (by first | rfl | exact jnarb _ | (split <;> rfl)) dX1_freeOf_17
theorem c_X1_isAllIn (hi : i + 3 < h.length) : jMd l E yX1_isAllIn cX1_isAllIn 3 (some .boolean) 0 [.ref (E.1 + i), .int (nI d)] (jp6 E h i xs ys cv ly cu cd) (some (.int (jB01 (cu &&& ((4369 : Int32) <<< (nI d &&& 31)) = (4369 : Int32) <<< (nI d &&& 31))))) (jp6 E h i xs ys cv ly cu cd) 0 0 := by
  refine jMd_of (by decide) (Nat.le_of_ble_eq_true rfl) (by simp [Value.category]) (by first | rfl | simp [jpB_len]) (fun x hx F T hm => ?_)
  refine jG_sipush F (v := (4369 : Int32)) dX1_isAllIn_0 (by decide) ?_
  refine jG_iload_n F dX1_isAllIn_3 rfl ?_
  refine jG_ishl F dX1_isAllIn_4 ?_
  refine jG_istore_n_2n F dX1_isAllIn_5 (by decide) ?_
  refine jG_aload_n F dX1_isAllIn_6 rfl ?_
  refine jg_X1_25 F dX1_isAllIn_7 (jpB_o hi) rfl ?_
  refine jG_iload_n F dX1_isAllIn_10 rfl ?_
  refine jG_iand F dX1_isAllIn_11 ?_
  refine jG_iload_n F dX1_isAllIn_12 rfl ?_
  refine jG_icmp_ne F 20 dX1_isAllIn_13 (by decide) (fun q0 => ?_) (fun q0 => ?_)
  · refine jG_iconst F (v := (0 : Int32)) dX1_isAllIn_20 (by decide) ?_
    exact jG_iret F T (by first | exact (jB01_neg (by assumption)).symm | exact (jB01_pos (by assumption)).symm) rfl (by first | rfl | exact jnarb _ | (split <;> rfl)) dX1_isAllIn_21
  · refine jG_iconst F (v := (1 : Int32)) dX1_isAllIn_16 (by decide) ?_
    refine jG_goto F 21 dX1_isAllIn_17 (by decide) ?_
    exact jG_iret F T (by first | exact (jB01_neg (by assumption)).symm | exact (jB01_pos (by assumption)).symm) rfl (by first | rfl | exact jnarb _ | (split <;> rfl)) dX1_isAllIn_21
theorem c_X1_isAnyoneAllIn (hi : i + 3 < h.length) : jMd l E yX1_isAnyoneAllIn cX1_isAnyoneAllIn 1 (some .boolean) 0 [.ref (E.1 + i)] (jp6 E h i xs ys cv ly cu cd) (some (.int (jB01 (janyin cu)))) (jp6 E h i xs ys cv ly cu cd) 0 0 := by
  refine jMd_of (by decide) (Nat.le_of_ble_eq_true rfl) (by simp [Value.category]) (by first | rfl | simp [jpB_len]) (fun x hx F T hm => ?_)
  refine jG_aload_n F dX1_isAnyoneAllIn_0 rfl ?_
  refine jg_X1_25 F dX1_isAnyoneAllIn_1 (jpB_o hi) rfl ?_
  refine jG_aload_n F dX1_isAnyoneAllIn_4 rfl ?_
  refine jg_X1_25 F dX1_isAnyoneAllIn_5 (jpB_o hi) rfl ?_
  refine jG_iconst F (v := (4 : Int32)) dX1_isAnyoneAllIn_8 (by decide) ?_
  refine jG_ishr F dX1_isAnyoneAllIn_9 ?_
  refine jG_iand F dX1_isAnyoneAllIn_10 ?_
  refine jG_aload_n F dX1_isAnyoneAllIn_11 rfl ?_
  refine jg_X1_25 F dX1_isAnyoneAllIn_12 (jpB_o hi) rfl ?_
  refine jG_bipush F (v := (8 : Int32)) dX1_isAnyoneAllIn_15 (by decide) ?_
  refine jG_ishr F dX1_isAnyoneAllIn_17 ?_
  refine jG_iand F dX1_isAnyoneAllIn_18 ?_
  refine jG_aload_n F dX1_isAnyoneAllIn_19 rfl ?_
  refine jg_X1_25 F dX1_isAnyoneAllIn_20 (jpB_o hi) rfl ?_
  refine jG_bipush F (v := (12 : Int32)) dX1_isAnyoneAllIn_23 (by decide) ?_
  refine jG_ishr F dX1_isAnyoneAllIn_25 ?_
  refine jG_iand F dX1_isAnyoneAllIn_26 ?_
  refine jG_if_eq F 34 dX1_isAnyoneAllIn_27 (by decide) (fun q0 => ?_) (fun q0 => ?_)
  · refine jG_iconst F (v := (0 : Int32)) dX1_isAnyoneAllIn_34 (by decide) ?_
    exact jG_iret F T (by first | exact (jB01_neg (fun q => q (by assumption))).symm | exact (jB01_pos (by assumption)).symm) rfl (by first | rfl | exact jnarb _ | (split <;> rfl)) dX1_isAnyoneAllIn_35
  · refine jG_iconst F (v := (1 : Int32)) dX1_isAnyoneAllIn_30 (by decide) ?_
    refine jG_goto F 35 dX1_isAnyoneAllIn_31 (by decide) ?_
    exact jG_iret F T (by first | exact (jB01_neg (fun q => q (by assumption))).symm | exact (jB01_pos (by assumption)).symm) rfl (by first | rfl | exact jnarb _ | (split <;> rfl)) dX1_isAnyoneAllIn_35
theorem c_X1_scoreOf (hi : i + 3 < h.length) : jMd l E yX1_scoreOf cX1_scoreOf 3 (some .int) 1 [.ref (E.1 + i), .int (nI d)] (jp6 E h i xs ys cv ly cu cd) (some (.int (jscore ly cu cd d))) (jp6 E h i xs ys cv ly cu cd) 0 0 := by
  refine jMd_of (by decide) (Nat.le_of_ble_eq_true rfl) (by simp [Value.category]) (by first | rfl | simp [jpB_len]) (fun x hx F T hm => ?_)
  refine jG_sipush F (v := (4369 : Int32)) dX1_scoreOf_0 (by decide) ?_
  refine jG_iload_n F dX1_scoreOf_3 rfl ?_
  refine jG_ishl F dX1_scoreOf_4 ?_
  refine jG_istore_n_2n F dX1_scoreOf_5 (by decide) ?_
  refine jG_iconst F (v := (3 : Int32)) dX1_scoreOf_6 (by decide) ?_
  refine jG_aload_n F dX1_scoreOf_7 rfl ?_
  refine jg_X1_25 F dX1_scoreOf_8 (jpB_o hi) rfl ?_
  refine jG_iload_n F dX1_scoreOf_11 rfl ?_
  refine jG_iand F dX1_scoreOf_12 ?_
  refine jc_X1_75 F dX1_scoreOf_13 (c_J6_bitCount_0f7a4) (by decide) (Nat.le_refl 0) (Nat.le_refl 0) (Nat.le_of_ble_eq_true rfl) ?_
  refine jG_imul F dX1_scoreOf_16 ?_
  refine jG_aload_n F dX1_scoreOf_17 rfl ?_
  refine jG_iload_n F dX1_scoreOf_18 rfl ?_
  refine jc_X1_80 F dX1_scoreOf_19 (c_X1_freeOf hi) (jpB_o hi) (by decide) (Nat.le_refl 0) (Nat.le_refl 0) (Nat.le_of_ble_eq_true rfl) ?_
  refine jG_aload_n F dX1_scoreOf_22 rfl ?_
  refine jg_X1_21 F dX1_scoreOf_23 (jpB_o hi) rfl ?_
  refine jG_iand F dX1_scoreOf_26 ?_
  refine jc_X1_75 F dX1_scoreOf_27 (c_J6_bitCount_0f7a4) (by decide) (Nat.le_refl 0) (Nat.le_refl 0) (Nat.le_of_ble_eq_true rfl) ?_
  refine jG_iadd F dX1_scoreOf_30 ?_
  exact jG_iret F T (rfl) rfl (by first | rfl | exact jnarb _ | (split <;> rfl)) dX1_scoreOf_31
theorem c_X1_isOverlap {o : Nat} (hi : i + 3 < h.length) (hd : d < 16) (ho : o < 16) : jMd l E yX1_isOverlap cX1_isOverlap 6 (some .boolean) 1 [.ref (E.1 + i), .int (nI d), .int (nI o)] (jp6 E h i xs ys cv ly cu cd) (some (.int (jB01 (jovb xs ys d o = true)))) (jp6 E h i xs ys cv ly cu cd) 0 0 := by
  refine jMd_of (by decide) (Nat.le_of_ble_eq_true rfl) (by simp [Value.category]) (by first | rfl | simp [jpB_len]) (fun x hx F T hm => ?_)
  refine jG_aload_n F dX1_isOverlap_0 rfl ?_
  refine jg_X1_9 F dX1_isOverlap_1 (jpB_o hi) rfl ?_
  refine jG_iload_n F dX1_isOverlap_4 rfl ?_
  refine jG_iald F dX1_isOverlap_5 (jpB_x hi) rfl (by omega) (by decide) ?_
  refine jG_aload_n F dX1_isOverlap_6 rfl ?_
  refine jg_X1_9 F dX1_isOverlap_7 (jpB_o hi) rfl ?_
  refine jG_iload_n F dX1_isOverlap_10 rfl ?_
  refine jG_iald F dX1_isOverlap_11 (jpB_x hi) rfl (by omega) (by decide) ?_
  refine jG_isub F dX1_isOverlap_12 ?_
  refine jG_istore_n_3n F dX1_isOverlap_13 (by decide) ?_
  refine jG_aload_n F dX1_isOverlap_14 rfl ?_
  refine jg_X1_15 F dX1_isOverlap_15 (jpB_o hi) rfl ?_
  refine jG_iload_n F dX1_isOverlap_18 rfl ?_
  refine jG_iald F dX1_isOverlap_19 (jpB_y hi) rfl (by omega) (by decide) ?_
  refine jG_aload_n F dX1_isOverlap_20 rfl ?_
  refine jg_X1_15 F dX1_isOverlap_21 (jpB_o hi) rfl ?_
  refine jG_iload_n F dX1_isOverlap_24 rfl ?_
  refine jG_iald F dX1_isOverlap_25 (jpB_y hi) rfl (by omega) (by decide) ?_
  refine jG_isub F dX1_isOverlap_26 ?_
  refine jG_istore_4n F dX1_isOverlap_27 (by decide) ?_
  refine jG_iload_n F dX1_isOverlap_29 rfl ?_
  refine jc_X1_66 F dX1_isOverlap_30 (c_X5_sizeOf) (by decide) (Nat.le_refl 0) (Nat.le_refl 0) (Nat.le_of_ble_eq_true rfl) ?_
  refine jG_iload_n F dX1_isOverlap_33 rfl ?_
  refine jc_X1_66 F dX1_isOverlap_34 (c_X5_sizeOf) (by decide) (Nat.le_refl 0) (Nat.le_refl 0) (Nat.le_of_ble_eq_true rfl) ?_
  refine jG_iadd F dX1_isOverlap_37 ?_
  refine jG_istore_5n F dX1_isOverlap_38 (by decide) ?_
  refine jG_iload_n F dX1_isOverlap_40 rfl ?_
  refine jG_iload_n F dX1_isOverlap_41 rfl ?_
  refine jG_imul F dX1_isOverlap_42 ?_
  refine jG_iload F dX1_isOverlap_43 rfl ?_
  refine jG_iload F dX1_isOverlap_45 rfl ?_
  refine jG_imul F dX1_isOverlap_47 ?_
  refine jG_iadd F dX1_isOverlap_48 ?_
  refine jG_iload F dX1_isOverlap_49 rfl ?_
  refine jG_iload F dX1_isOverlap_51 rfl ?_
  refine jG_imul F dX1_isOverlap_53 ?_
  refine jG_icmp_ge F 61 dX1_isOverlap_54 (by decide) (fun q0 => ?_) (fun q0 => ?_)
  · refine jG_iconst F (v := (0 : Int32)) dX1_isOverlap_61 (by decide) ?_
    exact jG_iret F T (by first | exact (jB01_neg (fun q => absurd (of_decide_eq_true q) (Int32.not_lt.mpr (by assumption)))).symm | exact (jB01_pos (decide_eq_true (Int32.not_le.mp (by assumption)))).symm) rfl (by first | rfl | exact jnarb _ | (split <;> rfl)) dX1_isOverlap_62
  · refine jG_iconst F (v := (1 : Int32)) dX1_isOverlap_57 (by decide) ?_
    refine jG_goto F 62 dX1_isOverlap_58 (by decide) ?_
    exact jG_iret F T (by first | exact (jB01_neg (fun q => absurd (of_decide_eq_true q) (Int32.not_lt.mpr (by assumption)))).symm | exact (jB01_pos (decide_eq_true (Int32.not_le.mp (by assumption)))).symm) rfl (by first | rfl | exact jnarb _ | (split <;> rfl)) dX1_isOverlap_62
theorem c_X1_coveredBy (hi : i + 3 < h.length) : jMd l E yX1_coveredBy cX1_coveredBy 4 (some .int) 0 [.ref (E.1 + i), .int (nI d)] (jp6 E h i xs ys cv ly cu cd) (some (.int (jorI 0 (fun o => decide (jts (cv o) d)) 16))) (jp6 E h i xs ys cv ly cu cd) 0 0 := by
  refine jMd_of (by decide) (Nat.le_of_ble_eq_true rfl) (by simp [Value.category]) (by first | rfl | simp [jpB_len]) (fun x hx F T hm => ?_)
  refine jG_iconst F (v := (0 : Int32)) dX1_coveredBy_0 (by decide) ?_
  refine jG_istore_n_2n F dX1_coveredBy_1 (by decide) ?_
  refine jG_iconst F (v := nI 0) dX1_coveredBy_2 (by decide) ?_
  refine jG_istore_n_3n F dX1_coveredBy_3 (by decide) ?_
  have loop : ∀ k, k ≤ 16 → jG E x 0 0 4 [.ref (E.1 + i), .int (nI d), .int (jorI 0 (fun o => decide (jts (cv o) d)) k), .int (nI k)] [] (jp6 E h i xs ys cv ly cu cd) := by
    refine jup 16 _ ?_ ?_
    · refine jG_iload_n F dX1_coveredBy_4 rfl ?_
      refine jG_bipush F (v := nI 16) dX1_coveredBy_5 (by decide) ?_
      refine jG_icmp_ge F 35 dX1_coveredBy_7 (by decide) (fun _ => ?_) (fun q => absurd (nI_le (Nat.le_refl 16) (by decide)) q)
      refine jG_iload_n F dX1_coveredBy_35 rfl ?_
      exact jG_iret F T (rfl) rfl (by first | rfl | exact jnarb _ | (split <;> rfl)) dX1_coveredBy_36
    · intro k hk ih
      refine jG_iload_n F dX1_coveredBy_4 rfl ?_
      refine jG_bipush F (v := nI 16) dX1_coveredBy_5 (by decide) ?_
      refine jG_icmp_ge F 35 dX1_coveredBy_7 (by decide) (fun q => absurd q (nI_ge hk (by decide))) (fun _ => ?_)
      refine jG_aload_n F dX1_coveredBy_10 rfl ?_
      refine jg_X1_18 F dX1_coveredBy_11 (jpB_o hi) rfl ?_
      refine jG_iload_n F dX1_coveredBy_14 rfl ?_
      refine jG_iald F dX1_coveredBy_15 (jpB_c hi) rfl (by omega) (by decide) ?_
      refine jG_iconst F (v := (1 : Int32)) dX1_coveredBy_16 (by decide) ?_
      refine jG_iload_n F dX1_coveredBy_17 rfl ?_
      refine jG_ishl F dX1_coveredBy_18 ?_
      refine jG_iand F dX1_coveredBy_19 ?_
      refine jG_if_eq F 29 dX1_coveredBy_20 (by decide) (fun q => ?_) (fun q => ?_)
      · refine jG_iinc_3 F (w := nI (k + 1)) dX1_coveredBy_29 (jinc k) (by decide) ?_
        refine jG_goto F 4 dX1_coveredBy_32 (by decide) ?_
        refine jG_eq ?_ rfl rfl ih
        rw [jorI_f (fun z => (of_decide_eq_true z) q)]
      · refine jG_iload_n F dX1_coveredBy_23 rfl ?_
        refine jG_iconst F (v := (1 : Int32)) dX1_coveredBy_24 (by decide) ?_
        refine jG_iload_n F dX1_coveredBy_25 rfl ?_
        refine jG_ishl F dX1_coveredBy_26 ?_
        refine jG_ior F dX1_coveredBy_27 ?_
        refine jG_istore_n_2e F dX1_coveredBy_28 (by decide) ?_
        refine jG_iinc_3 F (w := nI (k + 1)) dX1_coveredBy_29 (jinc k) (by decide) ?_
        refine jG_goto F 4 dX1_coveredBy_32 (by decide) ?_
        refine jG_eq ?_ rfl rfl ih
        rw [jorI_t (decide_eq_true q)]; rfl
  exact loop 0 (by decide)
theorem c_X1_withNeighbours {g : Int32} (hi : i + 3 < h.length) : jMd l E yX1_withNeighbours cX1_withNeighbours 4 (some .int) 0 [.ref (E.1 + i), .int g] (jp6 E h i xs ys cv ly cu cd) (some (.int (jwnF cv g 16))) (jp6 E h i xs ys cv ly cu cd) 0 0 := by
  refine jMd_of (by decide) (Nat.le_of_ble_eq_true rfl) (by simp [Value.category]) (by first | rfl | simp [jpB_len]) (fun x hx F T hm => ?_)
  refine jG_iload_n F dX1_withNeighbours_0 rfl ?_
  refine jG_istore_n_2n F dX1_withNeighbours_1 (by decide) ?_
  refine jG_iconst F (v := nI 0) dX1_withNeighbours_2 (by decide) ?_
  refine jG_istore_n_3n F dX1_withNeighbours_3 (by decide) ?_
  have loop : ∀ k, k ≤ 16 → jG E x 0 0 4 [.ref (E.1 + i), .int g, .int (jwnF cv g k), .int (nI k)] [] (jp6 E h i xs ys cv ly cu cd) := by
    refine jup 16 _ ?_ ?_
    · refine jG_iload_n F dX1_withNeighbours_4 rfl ?_
      refine jG_bipush F (v := nI 16) dX1_withNeighbours_5 (by decide) ?_
      refine jG_icmp_ge F 53 dX1_withNeighbours_7 (by decide) (fun _ => ?_) (fun q => absurd (nI_le (Nat.le_refl 16) (by decide)) q)
      refine jG_iload_n F dX1_withNeighbours_53 rfl ?_
      exact jG_iret F T (rfl) rfl (by first | rfl | exact jnarb _ | (split <;> rfl)) dX1_withNeighbours_54
    · intro k hk ih
      refine jG_iload_n F dX1_withNeighbours_4 rfl ?_
      refine jG_bipush F (v := nI 16) dX1_withNeighbours_5 (by decide) ?_
      refine jG_icmp_ge F 53 dX1_withNeighbours_7 (by decide) (fun q => absurd q (nI_ge hk (by decide))) (fun _ => ?_)
      refine jG_iload_n F dX1_withNeighbours_10 rfl ?_
      refine jG_iconst F (v := (1 : Int32)) dX1_withNeighbours_11 (by decide) ?_
      refine jG_iload_n F dX1_withNeighbours_12 rfl ?_
      refine jG_ishl F dX1_withNeighbours_13 ?_
      refine jG_iand F dX1_withNeighbours_14 ?_
      refine jG_if_eq F 30 dX1_withNeighbours_15 (by decide) (fun q => ?_) (fun q => ?_)
      · refine jG_iload_n F dX1_withNeighbours_30 rfl ?_
        refine jG_aload_n F dX1_withNeighbours_31 rfl ?_
        refine jg_X1_18 F dX1_withNeighbours_32 (jpB_o hi) rfl ?_
        refine jG_iload_n F dX1_withNeighbours_35 rfl ?_
        refine jG_iald F dX1_withNeighbours_36 (jpB_c hi) rfl (by omega) (by decide) ?_
        refine jG_iand F dX1_withNeighbours_37 ?_
        refine jG_if_eq F 47 dX1_withNeighbours_38 (by decide) (fun q2 => ?_) (fun q2 => ?_)
        · refine jG_iinc_3 F (w := nI (k + 1)) dX1_withNeighbours_47 (jinc k) (by decide) ?_
          refine jG_goto F 4 dX1_withNeighbours_50 (by decide) ?_
          refine jG_eq ?_ rfl rfl ih
          rw [show jwnF cv g (k + 1) = jwnF cv g k from (if_neg (fun z => z q)).trans (if_neg (fun z => z q2))]
        · refine jG_iload_n F dX1_withNeighbours_41 rfl ?_
          refine jG_iconst F (v := (1 : Int32)) dX1_withNeighbours_42 (by decide) ?_
          refine jG_iload_n F dX1_withNeighbours_43 rfl ?_
          refine jG_ishl F dX1_withNeighbours_44 ?_
          refine jG_ior F dX1_withNeighbours_45 ?_
          refine jG_istore_n_2e F dX1_withNeighbours_46 (by decide) ?_
          refine jG_iinc_3 F (w := nI (k + 1)) dX1_withNeighbours_47 (jinc k) (by decide) ?_
          refine jG_goto F 4 dX1_withNeighbours_50 (by decide) ?_
          refine jG_eq ?_ rfl rfl ih
          rw [show jwnF cv g (k + 1) = jwnF cv g k ||| jbit k from (if_neg (fun z => z q)).trans (if_pos q2)]; rfl
      · refine jG_iload_n F dX1_withNeighbours_18 rfl ?_
        refine jG_aload_n F dX1_withNeighbours_19 rfl ?_
        refine jg_X1_18 F dX1_withNeighbours_20 (jpB_o hi) rfl ?_
        refine jG_iload_n F dX1_withNeighbours_23 rfl ?_
        refine jG_iald F dX1_withNeighbours_24 (jpB_c hi) rfl (by omega) (by decide) ?_
        refine jG_ior F dX1_withNeighbours_25 ?_
        refine jG_istore_n_2e F dX1_withNeighbours_26 (by decide) ?_
        refine jG_goto F 47 dX1_withNeighbours_27 (by decide) ?_
        refine jG_iinc_3 F (w := nI (k + 1)) dX1_withNeighbours_47 (jinc k) (by decide) ?_
        refine jG_goto F 4 dX1_withNeighbours_50 (by decide) ?_
        refine jG_eq ?_ rfl rfl ih
        rw [show jwnF cv g (k + 1) = jwnF cv g k ||| cv k from if_pos q]
  exact loop 0 (by decide)
theorem c_X1_pileOf (hi : i + 3 < h.length) : jMd l E yX1_pileOf cX1_pileOf 4 (some .int) 1 [.ref (E.1 + i), .int (nI d)] (jp6 E h i xs ys cv ly cu cd) (some (.int (jpile cv ly d))) (jp6 E h i xs ys cv ly cu cd) 0 0 := by
  refine jMd_of (by decide) (Nat.le_of_ble_eq_true rfl) (by simp [Value.category]) (by first | rfl | simp [jpB_len]) (fun x hx F T hm => ?_)
  refine jG_aload_n F dX1_pileOf_0 rfl ?_
  refine jG_iload_n F dX1_pileOf_1 rfl ?_
  refine jc_X1_58 F dX1_pileOf_2 (c_X1_doesLie hi) (jpB_o hi) (by decide) (Nat.le_refl 0) (Nat.le_refl 0) (Nat.le_of_ble_eq_true rfl) ?_
  refine jG_if_ne F 10 dX1_pileOf_5 (by decide) (fun q => ?_) (fun q => ?_)
  · refine jG_iconst F (v := (1 : Int32)) dX1_pileOf_10 (by decide) ?_
    refine jG_iload_n F dX1_pileOf_11 rfl ?_
    refine jG_ishl F dX1_pileOf_12 ?_
    refine jG_istore_n_2n F dX1_pileOf_13 (by decide) ?_
    refine jG_iconst F (v := nI 0) dX1_pileOf_14 (by decide) ?_
    refine jG_istore_n_3n F dX1_pileOf_15 (by decide) ?_
    have loop : ∀ k, k ≤ 16 → jG E x 0 0 16 [.ref (E.1 + i), .int (nI d), .int (jpilF cv (jbit d) k), .int (nI k)] [] (jp6 E h i xs ys cv ly cu cd) := by
      refine jup 16 _ ?_ ?_
      · refine jG_iload_n F dX1_pileOf_16 rfl ?_
        refine jG_bipush F (v := nI 16) dX1_pileOf_17 (by decide) ?_
        refine jG_icmp_ge F 34 dX1_pileOf_19 (by decide) (fun _ => ?_) (fun q => absurd (nI_le (Nat.le_refl 16) (by decide)) q)
        refine jG_iload_n F dX1_pileOf_34 rfl ?_
        exact jG_iret F T ((if_neg (jB01_ne q)).symm) rfl (by first | rfl | exact jnarb _ | (split <;> rfl)) dX1_pileOf_35
      · intro k hk ih
        refine jG_iload_n F dX1_pileOf_16 rfl ?_
        refine jG_bipush F (v := nI 16) dX1_pileOf_17 (by decide) ?_
        refine jG_icmp_ge F 34 dX1_pileOf_19 (by decide) (fun q => absurd q (nI_ge hk (by decide))) (fun _ => ?_)
        refine jG_aload_n F dX1_pileOf_22 rfl ?_
        refine jG_iload_n F dX1_pileOf_23 rfl ?_
        refine jc_X1_72 F dX1_pileOf_24 (c_X1_withNeighbours hi) (jpB_o hi) (by decide) (Nat.le_refl 0) (Nat.le_refl 0) (Nat.le_of_ble_eq_true rfl) ?_
        refine jG_istore_n_2e F dX1_pileOf_27 (by decide) ?_
        refine jG_iinc_3 F (w := nI (k + 1)) dX1_pileOf_28 (jinc k) (by decide) ?_
        refine jG_goto F 16 dX1_pileOf_31 (by decide) ?_
        exact ih
    exact loop 0 (by decide)
  · refine jG_iconst F (v := (0 : Int32)) dX1_pileOf_8 (by decide) ?_
    exact jG_iret F T ((if_pos (Classical.not_not.mp (jB01_eq q))).symm) rfl (by first | rfl | exact jnarb _ | (split <;> rfl)) dX1_pileOf_9
end BO
end
section
/-! ===== Board: lift, bring, bringAllToBase ===== -/
section BR
variable {l : Launch} {E : jE} {h : List va_E} {i d : Nat} {xs ys cv : Nat → Int32} {ly cu cd : Int32}
theorem c_X1_lift (hi : i + 3 < h.length) (hd : d < 16) : jMd l E yX1_lift cX1_lift 4 none 1 [.ref (E.1 + i), .int (nI d)] (jp6 E h i xs ys cv ly cu cd) none (jpB E h i (jliftF (xs, ys, cv, ly, cu, cd) d)) 0 0 := by
  refine jMd_of (by decide) (Nat.le_of_ble_eq_true rfl) (by simp [Value.category]) (by first | rfl | simp [jpB_len]) (fun x hx F T hm => ?_)
  refine jG_iconst F (v := (1 : Int32)) dX1_lift_0 (by decide) ?_
  refine jG_iload_n F dX1_lift_1 rfl ?_
  refine jG_ishl F dX1_lift_2 ?_
  refine jG_iconst F (v := (-1 : Int32)) dX1_lift_3 (by decide) ?_
  refine jG_ixor F dX1_lift_4 ?_
  refine jG_istore_n_2n F dX1_lift_5 (by decide) ?_
  refine jG_aload_n F dX1_lift_6 rfl ?_
  refine jG_dup F dX1_lift_7 rfl ?_
  refine jg_X1_25 F dX1_lift_8 (jpB_o hi) rfl ?_
  refine jG_iload_n F dX1_lift_11 rfl ?_
  refine jG_iand F dX1_lift_12 ?_
  refine jp_X1_25 F dX1_lift_13 (jpB_o hi) rfl rfl (Nat.le_of_ble_eq_true rfl) ?_
  refine jG_eq rfl rfl jpB_put_inCup ?_
  refine jG_aload_n F dX1_lift_16 rfl ?_
  refine jG_iload_n F dX1_lift_17 rfl ?_
  refine jc_X1_58 F dX1_lift_18 (c_X1_doesLie hi) (jpB_o hi) (by decide) (Nat.le_refl 0) (Nat.le_refl 0) (Nat.le_of_ble_eq_true rfl) ?_
  refine jG_if_ne F 25 dX1_lift_21 (by decide) (fun q => ?_) (fun q => ?_)
  · refine jG_aload_n F dX1_lift_25 rfl ?_
    refine jG_dup F dX1_lift_26 rfl ?_
    refine jg_X1_21 F dX1_lift_27 (jpB_o hi) rfl ?_
    refine jG_iload_n F dX1_lift_30 rfl ?_
    refine jG_iand F dX1_lift_31 ?_
    refine jp_X1_21 F dX1_lift_32 (jpB_o hi) rfl rfl (Nat.le_of_ble_eq_true rfl) ?_
    refine jG_eq rfl rfl jpB_put_lying ?_
    refine jG_aload_n F dX1_lift_35 rfl ?_
    refine jg_X1_18 F dX1_lift_36 (jpB_o hi) rfl ?_
    refine jG_iload_n F dX1_lift_39 rfl ?_
    refine jG_iconst F (v := (0 : Int32)) dX1_lift_40 (by decide) ?_
    refine jG_iast F dX1_lift_41 (jpB_c hi) rfl (by omega) (by decide) ?_
    refine jG_eq rfl rfl jpB_st_c ?_
    refine jG_aload_n F dX1_lift_42 rfl ?_
    refine jG_iconst F (v := (0 : Int32)) dX1_lift_43 (by decide) ?_
    refine jp_X1_28 F dX1_lift_44 (jpB_o hi) rfl rfl (Nat.le_of_ble_eq_true rfl) ?_
    refine jG_eq rfl rfl jpB_put_covered ?_
    refine jG_iconst F (v := nI 0) dX1_lift_47 (by decide) ?_
    refine jG_istore_n_3n F dX1_lift_48 (by decide) ?_
    have q := jB01_ne q
    have e : jliftF (xs, ys, cv, ly, cu, cd) d = (xs, ys, jfil (fun o => upd cv d 0 o &&& joth d) (upd cv d 0) 16, ly &&& joth d, cu &&& joth d, jorI 0 (fun o => decide (¬ upd cv d 0 o &&& joth d = 0)) 16) := if_neg q
    have loop : ∀ k, k ≤ 16 → jG E x 0 0 49 [.ref (E.1 + i), .int (nI d), .int (joth d), .int (nI k)] [] (jp6 E h i xs ys (jfil (fun o => upd cv d 0 o &&& joth d) (upd cv d 0) k) (ly &&& joth d) (cu &&& joth d) (jorI 0 (fun o => decide (¬ upd cv d 0 o &&& joth d = 0)) k)) := by
      refine jup 16 _ ?_ ?_
      · refine jG_iload_n F dX1_lift_49 rfl ?_
        refine jG_bipush F (v := nI 16) dX1_lift_50 (by decide) ?_
        refine jG_icmp_ge F 92 dX1_lift_52 (by decide) (fun _ => ?_) (fun q => absurd (nI_le (Nat.le_refl 16) (by decide)) q)
        exact jG_ret F T (by rw [e]) dX1_lift_92
      · intro k hk ih
        refine jG_iload_n F dX1_lift_49 rfl ?_
        refine jG_bipush F (v := nI 16) dX1_lift_50 (by decide) ?_
        refine jG_icmp_ge F 92 dX1_lift_52 (by decide) (fun q => absurd q (nI_ge hk (by decide))) (fun _ => ?_)
        refine jG_aload_n F dX1_lift_55 rfl ?_
        refine jg_X1_18 F dX1_lift_56 (jpB_o hi) rfl ?_
        refine jG_iload_n F dX1_lift_59 rfl ?_
        refine jG_dup2 F dX1_lift_60 rfl rfl ?_
        refine jG_iald F dX1_lift_61 (jpB_c hi) rfl (by omega) (by decide) ?_
        refine jG_iload_n F dX1_lift_62 rfl ?_
        refine jG_iand F dX1_lift_63 ?_
        refine jG_iast F dX1_lift_64 (jpB_c hi) rfl (by omega) (by decide) ?_
        refine jG_eq rfl rfl jpB_st_c ?_
        refine jG_eq rfl rfl (congrArg (fun f => jp6 E h i xs ys f _ _ _) (jfil_s _ _ k (by show jfil _ _ k k &&& _ = _; rw [jfil_at]))) ?_
        refine jG_aload_n F dX1_lift_65 rfl ?_
        refine jg_X1_18 F dX1_lift_66 (jpB_o hi) rfl ?_
        refine jG_iload_n F dX1_lift_69 rfl ?_
        refine jG_iald F dX1_lift_70 (jpB_c hi) rfl (by omega) (by decide) ?_
        refine jG_if_eq F 86 dX1_lift_71 (by decide) (fun q2 => ?_) (fun q2 => ?_)
        · refine jG_iinc_3 F (w := nI (k + 1)) dX1_lift_86 (jinc k) (by decide) ?_
          refine jG_goto F 49 dX1_lift_89 (by decide) ?_
          refine jG_eq rfl rfl ?_ ih
          rw [jorI_f (n := k)]
          simpa [jfil] using q2
        · refine jG_aload_n F dX1_lift_74 rfl ?_
          refine jG_dup F dX1_lift_75 rfl ?_
          refine jg_X1_28 F dX1_lift_76 (jpB_o hi) rfl ?_
          refine jG_iconst F (v := (1 : Int32)) dX1_lift_79 (by decide) ?_
          refine jG_iload_n F dX1_lift_80 rfl ?_
          refine jG_ishl F dX1_lift_81 ?_
          refine jG_ior F dX1_lift_82 ?_
          refine jp_X1_28 F dX1_lift_83 (jpB_o hi) rfl rfl (Nat.le_of_ble_eq_true rfl) ?_
          refine jG_eq rfl rfl jpB_put_covered ?_
          refine jG_iinc_3 F (w := nI (k + 1)) dX1_lift_86 (jinc k) (by decide) ?_
          refine jG_goto F 49 dX1_lift_89 (by decide) ?_
          refine jG_eq rfl rfl ?_ ih
          rw [jorI_t (n := k)]
          · rfl
          · simpa [jfil] using q2
    refine jG_eq rfl rfl ?_ (loop 0 (by decide))
    rw [jfil_0]; rfl
  · exact jG_ret F T (by rw [show jliftF (xs, ys, cv, ly, cu, cd) d = (xs, ys, cv, ly, cu &&& joth d, cd) from if_pos (Classical.not_not.mp (jB01_eq q))]; rfl) dX1_lift_24
theorem c_X1_bring {a b : Int32} (hi : i + 3 < h.length) (hd : d < 16) : jMd l E yX1_bring cX1_bring 5 none 2 [.ref (E.1 + i), .int (nI d), .int a, .int b] (jp6 E h i xs ys cv ly cu cd) none (jpB E h i (jbringF (xs, ys, cv, ly, cu, cd) d a b)) 0 0 := by
  refine jMd_of (by decide) (Nat.le_of_ble_eq_true rfl) (by simp [Value.category]) (by first | rfl | simp [jpB_len]) (fun x hx F T hm => ?_)
  refine jG_aload_n F dX1_bring_0 rfl ?_
  refine jG_iload_n F dX1_bring_1 rfl ?_
  refine jc_X1_44 F dX1_bring_2 (c_X1_lift hi (by omega)) (jpB_o hi) (by decide) (Nat.le_refl 0) (Nat.le_refl 0) (Nat.le_of_ble_eq_true rfl) ?_
  refine jG_iload_n F dX1_bring_5 rfl ?_
  refine jG_iconst F (v := (-1 : Int32)) dX1_bring_6 (by decide) ?_
  refine jG_icmp_ne F 39 dX1_bring_7 (by decide) (fun q => ?_) (fun q => ?_)
  · refine jG_aload_n F dX1_bring_39 rfl ?_
    refine jg_X1_9 F dX1_bring_40 (jpB_o hi) rfl ?_
    refine jG_iload_n F dX1_bring_43 rfl ?_
    refine jG_iload_n F dX1_bring_44 rfl ?_
    refine jG_iast F dX1_bring_45 (jpB_x hi) rfl (by omega) (by decide) ?_
    refine jG_eq rfl rfl jpB_st_x ?_
    refine jG_aload_n F dX1_bring_46 rfl ?_
    refine jg_X1_15 F dX1_bring_47 (jpB_o hi) rfl ?_
    refine jG_iload_n F dX1_bring_50 rfl ?_
    refine jG_iload_n F dX1_bring_51 rfl ?_
    refine jG_iast F dX1_bring_52 (jpB_y hi) rfl (by omega) (by decide) ?_
    refine jG_eq rfl rfl jpB_st_y ?_
    refine jG_iload_n F dX1_bring_53 rfl ?_
    refine jG_bipush F (v := (41 : Int32)) dX1_bring_54 (by decide) ?_
    refine jG_icmp_ne F 72 dX1_bring_56 (by decide) (fun q2 => ?_) (fun q2 => ?_)
    · refine jG_iconst F (v := nI 0) dX1_bring_72 (by decide) ?_
      refine jG_istore_4n F dX1_bring_73 (by decide) ?_
      have e : jbringF (xs, ys, cv, ly, cu, cd) d a b = jlayF (jputF (jliftF (xs, ys, cv, ly, cu, cd) d) d a b) d := (if_neg q).trans (if_neg q2)
      generalize hC : jputF (jliftF (xs, ys, cv, ly, cu, cd) d) d a b = C at e
      have loop : ∀ k, k ≤ 16 → jG E x 0 0 75 [.ref (E.1 + i), .int (nI d), .int a, .int b, .int (nI k)] [] (jp6 E h i C.1 C.2.1 (jfil (fun o => if jhit C.1 C.2.1 C.2.2.2.1 d o then C.2.2.1 o ||| jbit d else C.2.2.1 o) C.2.2.1 k) C.2.2.2.1 C.2.2.2.2.1 (jorI C.2.2.2.2.2 (jhit C.1 C.2.1 C.2.2.2.1 d) k)) := by
        refine jup 16 _ ?_ ?_
        · refine jG_iload F dX1_bring_75 rfl ?_
          refine jG_bipush F (v := nI 16) dX1_bring_77 (by decide) ?_
          refine jG_icmp_ge F 133 dX1_bring_79 (by decide) (fun _ => ?_) (fun q => absurd (nI_le (Nat.le_refl 16) (by decide)) q)
          refine jG_aload_n F dX1_bring_133 rfl ?_
          refine jG_dup F dX1_bring_134 rfl ?_
          refine jg_X1_21 F dX1_bring_135 (jpB_o hi) rfl ?_
          refine jG_iconst F (v := (1 : Int32)) dX1_bring_138 (by decide) ?_
          refine jG_iload_n F dX1_bring_139 rfl ?_
          refine jG_ishl F dX1_bring_140 ?_
          refine jG_ior F dX1_bring_141 ?_
          refine jp_X1_21 F dX1_bring_142 (jpB_o hi) rfl rfl (Nat.le_of_ble_eq_true rfl) ?_
          refine jG_eq rfl rfl jpB_put_lying ?_
          exact jG_ret F T (by rw [e]; rfl) dX1_bring_145
        · intro k hk ih
          refine jG_iload F dX1_bring_75 rfl ?_
          refine jG_bipush F (v := nI 16) dX1_bring_77 (by decide) ?_
          refine jG_icmp_ge F 133 dX1_bring_79 (by decide) (fun q => absurd q (nI_ge hk (by decide))) (fun _ => ?_)
          refine jG_aload_n F dX1_bring_82 rfl ?_
          refine jG_iload F dX1_bring_83 rfl ?_
          refine jc_X1_58 F dX1_bring_85 (c_X1_doesLie hi) (jpB_o hi) (by decide) (Nat.le_refl 0) (Nat.le_refl 0) (Nat.le_of_ble_eq_true rfl) ?_
          refine jG_if_eq F 127 dX1_bring_88 (by decide) (fun q3 => ?_) (fun q3 => ?_)
          · refine jG_iinc_4 F (w := nI (k + 1)) dX1_bring_127 (jinc k) (by decide) ?_
            refine jG_goto F 75 dX1_bring_130 (by decide) ?_
            refine jG_eq rfl rfl ?_ ih
            have hh : jhit C.1 C.2.1 C.2.2.2.1 d k = false := by simp [jhit, show ¬ jts C.2.2.2.1 k from jB01_eq q3]
            rw [jorI_f (n := k) (by rw [hh]; decide), ← jfil_k _ _ k (by simp [hh])]
          · refine jG_aload_n F dX1_bring_91 rfl ?_
            refine jG_iload_n F dX1_bring_92 rfl ?_
            refine jG_iload F dX1_bring_93 rfl ?_
            refine jc_X1_62 F dX1_bring_95 (c_X1_isOverlap hi (by omega) (by omega)) (jpB_o hi) (by decide) (Nat.le_refl 0) (Nat.le_refl 0) (Nat.le_of_ble_eq_true rfl) ?_
            refine jG_if_eq F 127 dX1_bring_98 (by decide) (fun q4 => ?_) (fun q4 => ?_)
            · refine jG_iinc_4 F (w := nI (k + 1)) dX1_bring_127 (jinc k) (by decide) ?_
              refine jG_goto F 75 dX1_bring_130 (by decide) ?_
              refine jG_eq rfl rfl ?_ ih
              have h4 : ¬ jovb C.1 C.2.1 d k = true := jB01_eq q4
              have hh : jhit C.1 C.2.1 C.2.2.2.1 d k = false := by simp [jhit, h4]
              rw [jorI_f (n := k) (by rw [hh]; decide), ← jfil_k _ _ k (by simp [hh])]
            · refine jG_aload_n F dX1_bring_101 rfl ?_
              refine jg_X1_18 F dX1_bring_102 (jpB_o hi) rfl ?_
              refine jG_iload F dX1_bring_105 rfl ?_
              refine jG_dup2 F dX1_bring_107 rfl rfl ?_
              refine jG_iald F dX1_bring_108 (jpB_c hi) rfl (by omega) (by decide) ?_
              refine jG_iconst F (v := (1 : Int32)) dX1_bring_109 (by decide) ?_
              refine jG_iload_n F dX1_bring_110 rfl ?_
              refine jG_ishl F dX1_bring_111 ?_
              refine jG_ior F dX1_bring_112 ?_
              refine jG_iast F dX1_bring_113 (jpB_c hi) rfl (by omega) (by decide) ?_
              refine jG_eq rfl rfl jpB_st_c ?_
              refine jG_aload_n F dX1_bring_114 rfl ?_
              refine jG_dup F dX1_bring_115 rfl ?_
              refine jg_X1_28 F dX1_bring_116 (jpB_o hi) rfl ?_
              refine jG_iconst F (v := (1 : Int32)) dX1_bring_119 (by decide) ?_
              refine jG_iload F dX1_bring_120 rfl ?_
              refine jG_ishl F dX1_bring_122 ?_
              refine jG_ior F dX1_bring_123 ?_
              refine jp_X1_28 F dX1_bring_124 (jpB_o hi) rfl rfl (Nat.le_of_ble_eq_true rfl) ?_
              refine jG_eq rfl rfl jpB_put_covered ?_
              refine jG_iinc_4 F (w := nI (k + 1)) dX1_bring_127 (jinc k) (by decide) ?_
              refine jG_goto F 75 dX1_bring_130 (by decide) ?_
              refine jG_eq rfl rfl ?_ ih
              have h4 : jovb C.1 C.2.1 d k = true := jB01_ne q4
              have h3 : jts C.2.2.2.1 k := jB01_ne q3
              have hh : jhit C.1 C.2.1 C.2.2.2.1 d k = true := by simp [jhit, h3, h4]
              rw [jorI_t (n := k) hh, ← jfil_s _ _ k (v := jfil (fun o => if jhit C.1 C.2.1 C.2.2.2.1 d o then C.2.2.1 o ||| jbit d else C.2.2.1 o) C.2.2.1 k k ||| jbit d) (by rw [jfil_at]; simp [hh])]
              rfl
      refine jG_eq rfl rfl ?_ (loop 0 (by decide))
      rw [jfil_0, ← hC]; rfl
    · refine jG_aload_n F dX1_bring_59 rfl ?_
      refine jG_dup F dX1_bring_60 rfl ?_
      refine jg_X1_25 F dX1_bring_61 (jpB_o hi) rfl ?_
      refine jG_iconst F (v := (1 : Int32)) dX1_bring_64 (by decide) ?_
      refine jG_iload_n F dX1_bring_65 rfl ?_
      refine jG_ishl F dX1_bring_66 ?_
      refine jG_ior F dX1_bring_67 ?_
      refine jp_X1_25 F dX1_bring_68 (jpB_o hi) rfl rfl (Nat.le_of_ble_eq_true rfl) ?_
      refine jG_eq rfl rfl jpB_put_inCup ?_
      exact jG_ret F T (by rw [show jbringF (xs, ys, cv, ly, cu, cd) d a b = _ from (if_neg q).trans (if_pos q2)]; rfl) dX1_bring_71
  · refine jG_aload_n F dX1_bring_10 rfl ?_
    refine jg_X1_9 F dX1_bring_11 (jpB_o hi) rfl ?_
    refine jG_iload_n F dX1_bring_14 rfl ?_
    refine jG_baseXN F (by decide +kernel) dX1_bring_15 ?_
    refine jG_iload_n F dX1_bring_18 rfl ?_
    refine jc_X1_51 F dX1_bring_19 (c_X5_playerOf hd) (by decide) (Nat.le_refl 0) (Nat.le_refl 0) (Nat.le_of_ble_eq_true rfl) ?_
    refine jG_tabN F F.2.2.2.2.2.1.2.2.2.1.2 dX1_bring_22 rfl (by omega) ?_
    refine jG_iast F dX1_bring_23 (jpB_x hi) rfl (by omega) (by decide) ?_
    refine jG_eq rfl rfl jpB_st_x ?_
    refine jG_aload_n F dX1_bring_24 rfl ?_
    refine jg_X1_15 F dX1_bring_25 (jpB_o hi) rfl ?_
    refine jG_iload_n F dX1_bring_28 rfl ?_
    refine jG_baseYN F (by decide +kernel) dX1_bring_29 ?_
    refine jG_iload_n F dX1_bring_32 rfl ?_
    refine jc_X1_51 F dX1_bring_33 (c_X5_playerOf hd) (by decide) (Nat.le_refl 0) (Nat.le_refl 0) (Nat.le_of_ble_eq_true rfl) ?_
    refine jG_tabN F F.2.2.2.2.2.1.2.2.2.2.1.2 dX1_bring_36 rfl (by omega) ?_
    refine jG_iast F dX1_bring_37 (jpB_y hi) rfl (by omega) (by decide) ?_
    refine jG_eq rfl rfl jpB_st_y ?_
    exact jG_ret F T (by rw [show jbringF (xs, ys, cv, ly, cu, cd) d a b = _ from if_pos q]; rfl) dX1_bring_38
theorem c_X1_bringAllToBase (hi : i + 3 < h.length) : jMd l E yX1_bringAllToBase cX1_bringAllToBase 2 none 3 [.ref (E.1 + i)] (jp6 E h i xs ys cv ly cu cd) none (jpB E h i (jallF (xs, ys, cv, ly, cu, cd) 16)) 0 0 := by
  refine jMd_of (by decide) (Nat.le_of_ble_eq_true rfl) (by simp [Value.category]) (by first | rfl | simp [jpB_len]) (fun x hx F T hm => ?_)
  refine jG_iconst F (v := nI 0) dX1_bringAllToBase_0 (by decide) ?_
  refine jG_istore_n_1n F dX1_bringAllToBase_1 (by decide) ?_
  have loop : ∀ k, k ≤ 16 → jG E x 0 0 2 [.ref (E.1 + i), .int (nI k)] [] (jpB E h i (jallF (xs, ys, cv, ly, cu, cd) k)) := by
    refine jup 16 _ ?_ ?_
    · refine jG_iload_n F dX1_bringAllToBase_2 rfl ?_
      refine jG_bipush F (v := nI 16) dX1_bringAllToBase_3 (by decide) ?_
      refine jG_icmp_ge F 21 dX1_bringAllToBase_5 (by decide) (fun _ => ?_) (fun q => absurd (nI_le (Nat.le_refl 16) (by decide)) q)
      exact jG_ret F T (rfl) dX1_bringAllToBase_21
    · intro k hk ih
      refine jG_iload_n F dX1_bringAllToBase_2 rfl ?_
      refine jG_bipush F (v := nI 16) dX1_bringAllToBase_3 (by decide) ?_
      refine jG_icmp_ge F 21 dX1_bringAllToBase_5 (by decide) (fun q => absurd q (nI_ge hk (by decide))) (fun _ => ?_)
      refine jG_aload_n F dX1_bringAllToBase_8 rfl ?_
      refine jG_iload_n F dX1_bringAllToBase_9 rfl ?_
      refine jG_iconst F (v := (-1 : Int32)) dX1_bringAllToBase_10 (by decide) ?_
      refine jG_iconst F (v := (-1 : Int32)) dX1_bringAllToBase_11 (by decide) ?_
      refine jc_X1_34 F dX1_bringAllToBase_12 (c_X1_bring hi (by omega)) (jpB_o hi) (by decide) (Nat.le_refl 0) (Nat.le_refl 0) (Nat.le_of_ble_eq_true rfl) ?_
      refine jG_iinc_1 F (w := nI (k + 1)) dX1_bringAllToBase_15 (jinc k) (by decide) ?_
      refine jG_goto F 2 dX1_bringAllToBase_18 (by decide) ?_
      exact ih
  exact loop 0 (by decide)
end BR
end
section
/-! ===== copies of rows, new cells, rows of references ===== -/
theorem jcell_ext (cA : ClassId) (n : Nat) {f g : Nat → Int32} (h : ∀ k, k < n → f k = g k) : vp_cell cA (n, .inl f) = vp_cell cA (n, .inl g) := by
  rw [vp_cell_i, vp_cell_i]
  unfold arrV
  congr 1
  apply congrArg
  funext j
  show Value.int (f j.val) = Value.int (g j.val)
  rw [h j.val j.isLt]
theorem jV_arr {E : jE} {h : List va_E} {i n : Nat} {f g : Nat → Int32} {H : Heap} (hfg : ∀ k, k < n → f k = g k) (hV : jV E (h.set i (jar E n f)) H) : jV E (h.set i (jar E n g)) H := by
  intro k q hq
  rw [jw_at, List.getElem?_set] at hq
  by_cases e : i = k
  · subst e
    by_cases hl : i < h.length
    · have h1 : (h.set i (jar E n f))[i]? = some (jar E n f) := by simp [hl]
      have h2 := hV i _ (jw_get h1)
      simp [hl] at hq
      subst hq
      have h3 : H[E.1 + i]? = some (vp_cell E.2.2.1 (n, .inl f)) := h2
      show H[E.1 + i]? = some (vp_cell E.2.2.1 (n, .inl g))
      rw [h3, jcell_ext E.2.2.1 n hfg]
    · simp [hl] at hq
  · rw [if_neg e] at hq
    refine hV k q ?_
    rw [jw_at, List.getElem?_set, if_neg e]
    exact hq
section JAL
variable {E : jE} {x : jX} {own : String} {cc : ByteArray} {nL d cm sm cells slots pc : Nat} {lv st : List Value} {h : List va_E}
/-- System.arraycopy of a whole row over another of the same length -/
theorem jG_copy (F : jF E x own cc nL d cm sm) {index i j n : Nat} {f g : Nat → Int32} {nn z0 z1 : Int32} (hw : Cond.methodLink own index arraycopyName ∈ jTB) (h1 : Cond.native arraycopyName ∈ jTB) (h2 : Cond.static arraycopyName ∈ jTB) (h3 : Cond.initialized "java/lang/System" ∈ jTB) (hd : 1 ≤ d) (hz0 : z0 = 0) (hz1 : z1 = 0) (hnn : nn = nI n) (hn : n < 2 ^ 31) (ha : h[j]? = some (jar E n f)) (hb : h[i]? = some (jar E n g)) (hcat : (st.map fun v => v.category).sum ≤ 8) (dg : decode cc pc = .ok (.invokestatic index, 3)) (k : jG E x cells slots (pc + 3) lv st (h.set i (jar E n f))) : jG E x cells slots pc lv (.int nn :: .int z1 :: .ref (E.1 + i) :: .int z0 :: .ref (E.1 + j) :: st) h := by
  subst hz0; subst hz1; subst hnn
  intro H locs ls hl hH hS
  have hfr := F.2.2.2.2.2.2.1
  have hlo := F.2.2.2.2.2.2.2.1
  have ok := F.2.2.2.2.1
  have hc : (nI n).toNatClampNeg = n := nI_clamp hn
  have h0 : (0 : Int32).toNatClampNeg = 0 := by decide
  have hfw : nativeFrameWords "java/lang/System" "arraycopy" 5 + 11 ≤ 27 := by decide +kernel
  refine va_copyi (D := E.2.1) (sp := 0) (dp := 0) (n := nI n) F.1 F.2.1 hl.1.symm F.2.2.2.1 (ok _ hw) (ok _ h1) (ok _ h2) (ok _ h3) F.2.2.2.2.2.1.2.1 hH.2 (jw_D E h) hS j i 0 0 (jw_get ha) (jw_get hb) rfl rfl rfl (by decide) (by decide) (nI_pos hn) (by rw [hc, h0]; omega) (by rw [hc, h0]; omega) (fun _ _ => rfl) (by omega) (by omega) dg (fun H1 locs1 hP1 hD1 hS1 => ?_)
  have hH1 : jH E x cells (h.set i (jar E n (va_cpy f g (0 : Int32).toNatClampNeg (0 : Int32).toNatClampNeg (nI n).toNatClampNeg))) H1 := jH_set hH hP1
  refine k H1 locs1 ls hl ⟨by rw [List.length_set]; exact hH.1, jV_arr (fun q hq => ?_) hH1.2⟩ hS1
  rw [hc, h0]
  simp [va_cpy, hq]
theorem jnewq {h : List va_E} {q : Nat} {e : va_E} {A : Nat → Prop} (hD : va_D (jb E) (jw E.1 h ++ [(q, e)])) (hq : q < E.1 + h.length + 1) : q = E.1 + h.length := by
  have h1 : E.1 ≤ q := by
    have := hD.2 (jw E.1 h).length (q, e) (by simp)
    exact this
  have hl : (jw E.1 h).length = h.length := by simp [jw]
  rcases Nat.lt_or_ge q (E.1 + h.length) with h2 | h2
  · exfalso
    obtain ⟨i, rfl⟩ : ∃ i, q = E.1 + i := ⟨q - E.1, by omega⟩
    have hi : i < h.length := by omega
    have h3 : (jw E.1 h ++ [(E.1 + i, e)])[i]? = some (E.1 + i, h[i]) := by
      rw [List.getElem?_append_left (by rw [hl]; exact hi)]
      exact jw_get (List.getElem?_eq_getElem hi)
    have h4 : (jw E.1 h ++ [(E.1 + i, e)])[h.length]? = some (E.1 + i, e) := by
      rw [List.getElem?_append_right (by rw [hl]; exact Nat.le_refl _), hl]; simp
    have := hD.1 i h.length _ _ h3 h4 rfl
    omega
  · omega
theorem jG_new (F : jF E x own cc nL d cm sm) {C : String} {T : u_T} {N ci index : Nat} {fs : List Value} (ty : Nat → FieldType) (hty : ∀ k, k < N → parseFieldDescriptor (T k).2.2.1 = some (ty k)) (hc : vwCl[ci]? = some (C, T, N)) (hin : ∀ w ∈ u_ws C T N, w ∈ jTB) (hcl : Cond.classLink own index C ∈ jTB) (hinst : Cond.instantiable C N ∈ jTB) (hini : Cond.initialized C ∈ jTB) (hfs : ∀ j, j < N → defaultValue (ty j) = vp_V fs j) (hcm : cells + 1 ≤ cm) (hsm : slots + N ≤ sm) (dg : decode cc pc = .ok (.new index, 3))
    (k : jG E x (cells + 1) (slots + N) (pc + 3) lv (.ref (E.1 + h.length) :: st) (h ++ [.inr (ci, fs)])) : jG E x cells slots pc lv st h := by
  intro H locs ls hl hH hS
  have ok := F.2.2.2.2.1
  have hce := F.2.2.2.2.2.2.2.2.1
  have hsl := F.2.2.2.2.2.2.2.2.2
  refine va_new (D := E.2.1) F.1 F.2.1 ok hin ty hty F.2.2.2.1 (ok _ hcl) (ok _ hinst) (ok _ hini) F.2.2.2.2.2.1.2.1 hH.2 (jw_D E h) hS (fun q hq => Nat.le_trans F.2.2.2.2.2.1.1 hq) hc hfs (by omega) (by omega) dg (fun q H1 hP1 hD1 hS1 => ?_)
  intro T0 hT X
  have hz := X.heapSize
  rw [hT] at hz
  have h1 : q < H1.size := (hP1 (jw E.1 h).length (q, .inr (ci, fs)) (by simp)).lt
  have h2 := hH.1
  have e : q = E.1 + h.length := jnewq (A := jb E) hD1 (by omega)
  subst e
  refine k H1 locs ls hl ⟨by rw [List.length_append, List.length_singleton]; omega, ?_⟩ hS1 T0 hT X
  rw [jw_push] at hP1
  exact hP1
theorem jG_newarray (F : jF E x own cc nL d cm sm) {n : Int32} {N : Nat} (hw : Cond.arrayClass .int ∈ jTB) (hn : n = nI N) (hN : N < 1000000) (hcm : cells + 1 ≤ cm) (hsm : slots + N ≤ sm) (dg : decode cc pc = .ok (.newarray .int, 2))
    (k : jG E x (cells + 1) (slots + N) (pc + 2) lv (.ref (E.1 + h.length) :: st) (h ++ [jar E N (fun _ => 0)])) : jG E x cells slots pc lv (.int n :: st) h := by
  subst hn
  intro H locs ls hl hH hS
  have ok := F.2.2.2.2.1
  have hce := F.2.2.2.2.2.2.2.2.1
  have hsl := F.2.2.2.2.2.2.2.2.2
  refine va_newa (atype := .int) (D := E.2.1) (a0 := (N, .inl (fun _ => 0))) F.1 F.2.1 (ok _ hw) rfl F.2.2.2.2.2.1.2.1 hH.2 (jw_D E h) hS (fun q hq => Nat.le_trans F.2.2.2.2.2.1.1 hq) (fun cA => rfl) (nI_pos (by omega)) (nI_clamp (by omega)) (by show N * 4 ≤ _; omega) (by omega) (by omega) dg (fun q cA H1 hK1 hP1 hD1 hS1 => ?_)
  have hcA : cA = E.2.2.1 := by
    have a1 := (hK1.2 2 (cA, .int) rfl).2
    have a2 := (F.2.2.2.2.2.1.2.1.2 0 (E.2.2.1, .int) rfl).2
    have b1 : (jS x).vm.findClass ("[" ++ FieldType.int.toString) = some cA := a1
    have b2 : (jS x).vm.findClass ("[" ++ FieldType.int.toString) = some E.2.2.1 := a2
    exact Option.some.inj (b1.symm.trans b2)
  subst hcA
  intro T0 hT X
  have hz := X.heapSize
  rw [hT] at hz
  have h1 : q < H1.size := (hP1 (jw E.1 h).length (q, .inl (E.2.2.1, (N, .inl (fun _ => 0)))) (by simp)).lt
  have h2 := hH.1
  have e : q = E.1 + h.length := jnewq (A := jb E) hD1 (by omega)
  subst e
  refine k H1 locs ls hl ⟨by rw [List.length_append, List.length_singleton]; omega, ?_⟩ hS1 T0 hT X
  rw [jw_push] at hP1
  exact hP1
theorem jG_objInit (F : jF E x own cc nL d cm sm) {index b : Nat} (hl0 : Cond.methodLink own index Lib.objectInit ∈ jTB) (hi0 : Cond.instanceMethod Lib.objectInit ∈ jTB) (hc0 : Cond.code Lib.objectInit ⟨#[0xb1]⟩ 1 none ∈ jTB) (hd : 1 ≤ d) (hcat : (st.map fun v => v.category).sum ≤ 8) (dg : decode cc pc = .ok (.invokespecial index, 3)) (k : jG E x cells slots (pc + 3) lv st h) : jG E x cells slots pc lv (.ref b :: st) h := by
  intro H locs ls hl hH hS
  have ok := F.2.2.2.2.1
  have hfr := F.2.2.2.2.2.2.1
  have hlo := F.2.2.2.2.2.2.2.1
  exact W.objInit F.1 F.2.1 F.2.2.2.1 (ok _ hl0) (ok _ hi0) (ok _ hc0) rfl hl.1 rfl dg (by omega) (by show 2 * 0 + _ + 12 ≤ _; omega) (k H locs ls hl hH hS)
/-- rows of Games -/
abbrev jgr (E : jE) (n : Nat) (f : Nat → Option Nat) : va_E := .inl (E.2.2.2.1, n, .inr (.inr (.inr (.inr f))))
theorem jG_aaload (F : jF E x own cc nL d cm sm) {i n k0 b : Nat} {f : Nat → Option Nat} {j : Int32} (dg : decode cc pc = .ok (.aaload, 1)) (he : h[i]? = some (jgr E n f)) (hj : j = nI k0) (hk : k0 < n) (hn : n < 2 ^ 31) (hf : f k0 = some b) (k : jG E x cells slots (pc + 1) lv (.ref b :: st) h) : jG E x cells slots pc lv (.int j :: .ref (E.1 + i) :: st) h := by
  subst hj
  intro H locs ls hl hH hS
  refine va_aldq (D := E.2.1) F.1 F.2.1 F.2.2.2.2.2.1.2.1 hH.2 i 1 (jw_get he) rfl (vp_in_nI hk hn) dg ?_
  rw [nI_clamp (Nat.lt_trans hk hn), hf]
  exact k H locs ls hl hH hS
theorem jG_aastore (F : jF E x own cc nL d cm sm) {i n k0 g0 : Nat} {fs : List Value} {f : Nat → Option Nat} {j : Int32} (dg : decode cc pc = .ok (.aastore, 1)) (he : h[i]? = some (jgr E n f)) (hg : h[g0]? = some (.inr (2, fs))) (hj : j = nI k0) (hk : k0 < n) (hn : n < 2 ^ 31) (k : jG E x cells slots (pc + 1) lv st (h.set i (jgr E n (va_up f k0 (some (E.1 + g0)))))) : jG E x cells slots pc lv (.ref (E.1 + g0) :: .int j :: .ref (E.1 + i) :: st) h := by
  subst hj
  intro H locs ls hl hH hS
  refine va_astq (D := E.2.1) (r := (RX2, TX2, 8)) F.1 F.2.1 F.2.2.2.2.2.1.2.1 hH.2 (jw_D E h) hS i 1 g0 2 (jw_get he) rfl (jw_get hg) rfl (vp_in_nI hk hn) dg (fun H1 locs1 hP1 hD1 hS1 => ?_)
  have hH1 := jH_set hH hP1
  rw [nI_clamp (Nat.lt_trans hk hn)] at hH1
  exact k H1 locs1 ls hl hH1 hS1
theorem jG_newq (F : jF E x own cc nL d cm sm) {index N : Nat} {n : Int32} (hcl : Cond.classLink own index "JumpDiscs$Game" ∈ jTB) (hao : Cond.arrayOver (.object "JumpDiscs$Game") ∈ jTB) (hn : n = nI N) (hN : N < 1000000) (hcm : cells + 1 ≤ cm) (hsm : slots + N ≤ sm) (dg : decode cc pc = .ok (.anewarray index, 3))
    (k : jG E x (cells + 1) (slots + N) (pc + 3) lv (.ref (E.1 + h.length) :: st) (h ++ [jgr E N (fun _ => none)])) : jG E x cells slots pc lv (.int n :: st) h := by
  subst hn
  intro H locs ls hl hH hS
  have ok := F.2.2.2.2.1
  have hce := F.2.2.2.2.2.2.2.2.1
  have hsl := F.2.2.2.2.2.2.2.2.2
  refine va_newq (D := E.2.1) (C := "JumpDiscs$Game") F.1 F.2.1 F.2.2.2.1 (ok _ hcl) (va_AO.of (A := jA x) (ok _ hao)) F.2.2.2.2.2.1.2.1 hH.2 (jw_D E h) hS (fun q hq => Nat.le_trans F.2.2.2.2.2.1.1 hq) (nI_pos (by omega)) (nI_clamp (by omega)) (by omega) (by omega) (by omega) dg (fun q cA H1 hK1 hP1 hD1 hS1 => ?_)
  have hcA : cA = E.2.2.2.1 := by
    obtain ⟨_, _, _, _, _, b1⟩ := (hK1.2 2 (cA, .object "JumpDiscs$Game") rfl).2
    obtain ⟨_, _, _, _, _, b2⟩ := (F.2.2.2.2.2.1.2.1.2 1 (E.2.2.2.1, .object "JumpDiscs$Game") rfl).2
    exact Option.some.inj (b1.symm.trans b2)
  subst hcA
  intro T0 hT X
  have hz := X.heapSize
  rw [hT] at hz
  have h1 : q < H1.size := (hP1 (jw E.1 h).length (q, .inl (E.2.2.2.1, (N, .inr (.inr (.inr (.inr (fun _ => none))))))) (by simp)).lt
  have h2 := hH.1
  have e : q = E.1 + h.length := jnewq (A := jb E) hD1 (by omega)
  subst e
  refine k H1 locs ls hl ⟨by rw [List.length_append, List.length_singleton]; omega, ?_⟩ hS1 T0 hT X
  rw [jw_push] at hP1
  exact hP1
end JAL
end
section
/-! ===== a Game's cells: the object at g, its Board behind it ===== -/
abbrev jgo (E : jE) (g : Nat) (ro ru ti : Int32) (se : Int64) (tu : Nat) (go rd : Int32) : va_E := .inr (2, [.ref (E.1 + (g + 1)), .int ro, .int ru, .int ti, .long se, .int (nI tu), .int go, .int rd])
abbrev jp13 (E : jE) (h : List va_E) (g : Nat) (xs ys cv : Nat → Int32) (ly cu cd ro ru ti : Int32) (se : Int64) (tu : Nat) (go rd : Int32) : List va_E := jp6 E (h.set g (jgo E g ro ru ti se tu go rd)) (g + 1) xs ys cv ly cu cd
section JGS
variable {E : jE} {h : List va_E} {g i : Nat} {xs ys cv : Nat → Int32} {ly cu cd ro ru ti v go rd : Int32} {se w : Int64} {tu t : Nat}
theorem jp6_set_ne {j : Nat} {e : va_E} (h0 : j ≠ i) (h1 : j ≠ i + 1) (h2 : j ≠ i + 2) (h3 : j ≠ i + 3) : (jp6 E h i xs ys cv ly cu cd).set j e = jp6 E (h.set j e) i xs ys cv ly cu cd := by
  unfold jp6
  rw [List.set_comm _ _ (Ne.symm h3), List.set_comm _ _ (Ne.symm h2), List.set_comm _ _ (Ne.symm h1), List.set_comm _ _ (Ne.symm h0)]
theorem jhg {e : va_E} (hg : g + 4 < h.length) : g + 1 + 3 < (h.set g e).length := by rw [List.length_set]; omega
theorem jpG_o (hg : g + 4 < h.length) : (jp13 E h g xs ys cv ly cu cd ro ru ti se tu go rd)[g]? = some (jgo E g ro ru ti se tu go rd) := by
  rw [jpB_ne (by omega) (by omega) (by omega) (by omega)]
  simp [show g < h.length by omega]
theorem jpG_len : (jp13 E h g xs ys cv ly cu cd ro ru ti se tu go rd).length = h.length := by rw [jpB_len, List.length_set]
theorem jpG_put {e : va_E} : (jp13 E h g xs ys cv ly cu cd ro ru ti se tu go rd).set g e = jp6 E (h.set g e) (g + 1) xs ys cv ly cu cd := by
  rw [jp6_set_ne (by omega) (by omega) (by omega) (by omega), List.set_set]
theorem jpG_put_rough : (jp13 E h g xs ys cv ly cu cd ro ru ti se tu go rd).set g (.inr (2, [.ref (E.1 + (g + 1)), .int ro, .int ru, .int ti, .long se, .int (nI tu), .int go, .int rd].set 1 (.int v))) = jp13 E h g xs ys cv ly cu cd v ru ti se tu go rd := jpG_put
theorem jpG_put_run : (jp13 E h g xs ys cv ly cu cd ro ru ti se tu go rd).set g (.inr (2, [.ref (E.1 + (g + 1)), .int ro, .int ru, .int ti, .long se, .int (nI tu), .int go, .int rd].set 2 (.int v))) = jp13 E h g xs ys cv ly cu cd ro v ti se tu go rd := jpG_put
theorem jpG_put_time : (jp13 E h g xs ys cv ly cu cd ro ru ti se tu go rd).set g (.inr (2, [.ref (E.1 + (g + 1)), .int ro, .int ru, .int ti, .long se, .int (nI tu), .int go, .int rd].set 3 (.int v))) = jp13 E h g xs ys cv ly cu cd ro ru v se tu go rd := jpG_put
theorem jpG_put_seed : (jp13 E h g xs ys cv ly cu cd ro ru ti se tu go rd).set g (.inr (2, [.ref (E.1 + (g + 1)), .int ro, .int ru, .int ti, .long se, .int (nI tu), .int go, .int rd].set 4 (.long w))) = jp13 E h g xs ys cv ly cu cd ro ru ti w tu go rd := jpG_put
theorem jpG_put_turn : (jp13 E h g xs ys cv ly cu cd ro ru ti se tu go rd).set g (.inr (2, [.ref (E.1 + (g + 1)), .int ro, .int ru, .int ti, .long se, .int (nI tu), .int go, .int rd].set 5 (.int (nI t)))) = jp13 E h g xs ys cv ly cu cd ro ru ti se t go rd := jpG_put
theorem jpG_put_gone : (jp13 E h g xs ys cv ly cu cd ro ru ti se tu go rd).set g (.inr (2, [.ref (E.1 + (g + 1)), .int ro, .int ru, .int ti, .long se, .int (nI tu), .int go, .int rd].set 6 (.int v))) = jp13 E h g xs ys cv ly cu cd ro ru ti se tu v rd := jpG_put
theorem jpG_put_rounds : (jp13 E h g xs ys cv ly cu cd ro ru ti se tu go rd).set g (.inr (2, [.ref (E.1 + (g + 1)), .int ro, .int ru, .int ti, .long se, .int (nI tu), .int go, .int rd].set 7 (.int v))) = jp13 E h g xs ys cv ly cu cd ro ru ti se tu go v := jpG_put
end JGS
end
section
/-! ===== Game: its methods (but the constructor) ===== -/
abbrev jovr (cu rd : Int32) : Prop := 5 < rd ∨ janyin cu
def jstep (ti go : Int32) (q : Nat × Int32) : Nat × Int32 := ((q.1 + 1) % 4, if (q.1 + 1) % 4 = 0 ∧ ti ≤ go then q.2 + 1 else q.2)
def jskip (ti go : Int32) (fr : Nat → Int32) : Nat → Nat × Int32 → Nat × Int32
  | 0, q => q
  | n + 1, q => if fr q.1 = 0 then jskip ti go fr n (jstep ti go q) else q
def jskipT (fr : Nat → Int32) : Nat → Nat → Nat
  | 0, t => t
  | n + 1, t => if fr t = 0 then jskipT fr n ((t + 1) % 4) else t
/-- endTurn: whose turn, how many rounds, once 'go' turns are gone -/
def jend (ti go : Int32) (fr : Nat → Int32) (b : Prop) [Decidable b] (q : Nat × Int32) : Nat × Int32 := jskip ti go fr 4 (if b then q else jstep ti go q)
def jseed (se : Int64) : Int64 := se * 48271 - se * 48271 / 2147483647 * 2147483647
def jdraw (se : Int64) (sp : Int32) : Int32 := (jseed se - jseed se / (2 * sp + 1).toInt64 * (2 * sp + 1).toInt64).toInt32 - sp
theorem jstep_lt (ti go : Int32) (q : Nat × Int32) : (jstep ti go q).1 < 4 := Nat.mod_lt _ (by decide)
theorem jskip_lt {ti go : Int32} {fr : Nat → Int32} : ∀ (n : Nat) (q : Nat × Int32), q.1 < 4 → (jskip ti go fr n q).1 < 4
  | 0, q, h => h
  | n + 1, q, h => by
    unfold jskip
    split
    · exact jskip_lt n _ (jstep_lt ti go q)
    · exact h
theorem jskipT_lt {fr : Nat → Int32} : ∀ (n t : Nat), t < 4 → jskipT fr n t < 4
  | 0, t, h => h
  | n + 1, t, h => by
    unfold jskipT
    split
    · exact jskipT_lt n _ (Nat.mod_lt _ (by decide))
    · exact h
theorem jend_lt {ti go : Int32} {fr : Nat → Int32} {b : Prop} [Decidable b] {q : Nat × Int32} (h : q.1 < 4) : (jend ti go fr b q).1 < 4 := by
  unfold jend
  apply jskip_lt
  split
  · exact h
  · exact jstep_lt _ _ _
section GA
variable {l : Launch} {E : jE} {h : List va_E} {g d : Nat} {xs ys cv : Nat → Int32} {ly cu cd ro ru ti go rd : Int32} {se : Int64} {tu : Nat}
theorem c_X2_isTimeCome (hg : g + 4 < h.length) : jMd l E yX2_isTimeCome cX2_isTimeCome 1 (some .boolean) 0 [.ref (E.1 + g)] (jp13 E h g xs ys cv ly cu cd ro ru ti se tu go rd) (some (.int (jB01 (ti ≤ go)))) (jp13 E h g xs ys cv ly cu cd ro ru ti se tu go rd) 0 0 := by
  refine jMd_of (by decide) (Nat.le_of_ble_eq_true rfl) (by simp [Value.category]) (by first | rfl | simp [jpG_len, jpB_len]) (fun x hx F T hm => ?_)
  refine jG_aload_n F dX2_isTimeCome_0 rfl ?_
  refine jg_X2_35 F dX2_isTimeCome_1 (jpG_o hg) rfl ?_
  refine jG_aload_n F dX2_isTimeCome_4 rfl ?_
  refine jg_X2_25 F dX2_isTimeCome_5 (jpG_o hg) rfl ?_
  refine jG_icmp_lt F 15 dX2_isTimeCome_8 (by decide) (fun q0 => ?_) (fun q0 => ?_)
  · refine jG_iconst F (v := (0 : Int32)) dX2_isTimeCome_15 (by decide) ?_
    exact jG_iret F T (by first | exact (jB01_neg (Int32.not_le.mpr (by assumption))).symm | exact (jB01_pos (Int32.not_lt.mp (by assumption))).symm) rfl (by first | rfl | exact jnarb _ | (split <;> rfl)) dX2_isTimeCome_16
  · refine jG_iconst F (v := (1 : Int32)) dX2_isTimeCome_11 (by decide) ?_
    refine jG_goto F 16 dX2_isTimeCome_12 (by decide) ?_
    exact jG_iret F T (by first | exact (jB01_neg (Int32.not_le.mpr (by assumption))).symm | exact (jB01_pos (Int32.not_lt.mp (by assumption))).symm) rfl (by first | rfl | exact jnarb _ | (split <;> rfl)) dX2_isTimeCome_16
theorem c_X2_roundsLeft (hg : g + 4 < h.length) : jMd l E yX2_roundsLeft cX2_roundsLeft 1 (some .int) 1 [.ref (E.1 + g)] (jp13 E h g xs ys cv ly cu cd ro ru ti se tu go rd) (some (.int (if ti ≤ go then (if rd = 0 then 5 else 6 - rd) else -4))) (jp13 E h g xs ys cv ly cu cd ro ru ti se tu go rd) 0 0 := by
  refine jMd_of (by decide) (Nat.le_of_ble_eq_true rfl) (by simp [Value.category]) (by first | rfl | simp [jpG_len, jpB_len]) (fun x hx F T hm => ?_)
  refine jG_aload_n F dX2_roundsLeft_0 rfl ?_
  refine jc_X2_48 F dX2_roundsLeft_1 (c_X2_isTimeCome hg) (jpG_o hg) (by decide) (Nat.le_refl 0) (Nat.le_refl 0) (Nat.le_of_ble_eq_true rfl) ?_
  refine jG_if_ne F 10 dX2_roundsLeft_4 (by decide) (fun q => ?_) (fun q => ?_)
  · have q := jB01_ne q
    refine jG_aload_n F dX2_roundsLeft_10 rfl ?_
    refine jg_X2_38 F dX2_roundsLeft_11 (jpG_o hg) rfl ?_
    refine jG_if_ne F 21 dX2_roundsLeft_14 (by decide) (fun q0 => ?_) (fun q0 => ?_)
    · refine jG_bipush F (v := (6 : Int32)) dX2_roundsLeft_21 (by decide) ?_
      refine jG_aload_n F dX2_roundsLeft_23 rfl ?_
      refine jg_X2_38 F dX2_roundsLeft_24 (jpG_o hg) rfl ?_
      refine jG_isub F dX2_roundsLeft_27 ?_
      exact jG_iret F T (by simp [*]) rfl (by first | rfl | exact jnarb _ | (split <;> rfl)) dX2_roundsLeft_28
    · refine jG_iconst F (v := (5 : Int32)) dX2_roundsLeft_17 (by decide) ?_
      refine jG_goto F 28 dX2_roundsLeft_18 (by decide) ?_
      exact jG_iret F T (by simp [*]) rfl (by first | rfl | exact jnarb _ | (split <;> rfl)) dX2_roundsLeft_28
  · have q := jB01_eq q
    refine jG_bipush F (v := (-4 : Int32)) dX2_roundsLeft_7 (by decide) ?_
    exact jG_iret F T (by simp [q]) rfl (by first | rfl | exact jnarb _ | (split <;> rfl)) dX2_roundsLeft_9
theorem c_X2_isOver (hg : g + 4 < h.length) : jMd l E yX2_isOver cX2_isOver 1 (some .boolean) 1 [.ref (E.1 + g)] (jp13 E h g xs ys cv ly cu cd ro ru ti se tu go rd) (some (.int (jB01 (jovr cu rd)))) (jp13 E h g xs ys cv ly cu cd ro ru ti se tu go rd) 0 0 := by
  refine jMd_of (by decide) (Nat.le_of_ble_eq_true rfl) (by simp [Value.category]) (by first | rfl | simp [jpG_len, jpB_len]) (fun x hx F T hm => ?_)
  refine jG_aload_n F dX2_isOver_0 rfl ?_
  refine jg_X2_38 F dX2_isOver_1 (jpG_o hg) rfl ?_
  refine jG_iconst F (v := (5 : Int32)) dX2_isOver_4 (by decide) ?_
  refine jG_icmp_gt F 18 dX2_isOver_5 (by decide) (fun q0 => ?_) (fun q0 => ?_)
  · refine jG_iconst F (v := (1 : Int32)) dX2_isOver_18 (by decide) ?_
    refine jG_goto F 23 dX2_isOver_19 (by decide) ?_
    exact jG_iret F T (by first | exact (jB01_pos (Or.inl (by assumption))).symm | exact (jB01_pos (Or.inr (jB01_ne (by assumption)))).symm | exact (jB01_neg (fun z => z.elim (by assumption) (jB01_eq (by assumption)))).symm) rfl (by first | rfl | exact jnarb _ | (split <;> rfl)) dX2_isOver_23
  · refine jG_aload_n F dX2_isOver_8 rfl ?_
    refine jg_X2_12 F dX2_isOver_9 (jpG_o hg) rfl ?_
    refine jc_X2_55 F dX2_isOver_12 (c_X1_isAnyoneAllIn (jhg hg)) (jpB_o (jhg hg)) (by decide) (Nat.le_refl 0) (Nat.le_refl 0) (Nat.le_of_ble_eq_true rfl) ?_
    refine jG_if_eq F 22 dX2_isOver_15 (by decide) (fun q1 => ?_) (fun q1 => ?_)
    · refine jG_iconst F (v := (0 : Int32)) dX2_isOver_22 (by decide) ?_
      exact jG_iret F T (by first | exact (jB01_pos (Or.inl (by assumption))).symm | exact (jB01_pos (Or.inr (jB01_ne (by assumption)))).symm | exact (jB01_neg (fun z => z.elim (by assumption) (jB01_eq (by assumption)))).symm) rfl (by first | rfl | exact jnarb _ | (split <;> rfl)) dX2_isOver_23
    · refine jG_iconst F (v := (1 : Int32)) dX2_isOver_18 (by decide) ?_
      refine jG_goto F 23 dX2_isOver_19 (by decide) ?_
      exact jG_iret F T (by first | exact (jB01_pos (Or.inl (by assumption))).symm | exact (jB01_pos (Or.inr (jB01_ne (by assumption)))).symm | exact (jB01_neg (fun z => z.elim (by assumption) (jB01_eq (by assumption)))).symm) rfl (by first | rfl | exact jnarb _ | (split <;> rfl)) dX2_isOver_23
theorem c_X2_mayPlay (hg : g + 4 < h.length) (hd : d < 16) (ht : tu < 4) : jMd l E yX2_mayPlay cX2_mayPlay 2 (some .boolean) 2 [.ref (E.1 + g), .int (nI d)] (jp13 E h g xs ys cv ly cu cd ro ru ti se tu go rd) (some (.int (jB01 (d % 4 = tu ∧ (cu ||| cd) &&& jbit d = 0 ∧ ¬ jovr cu rd)))) (jp13 E h g xs ys cv ly cu cd ro ru ti se tu go rd) 0 0 := by
  refine jMd_of (by decide) (Nat.le_of_ble_eq_true rfl) (by simp [Value.category]) (by first | rfl | simp [jpG_len, jpB_len]) (fun x hx F T hm => ?_)
  refine jG_iload_n F dX2_mayPlay_0 rfl ?_
  refine jc_X2_58 F dX2_mayPlay_1 (c_X5_playerOf hd) (by decide) (Nat.le_refl 0) (Nat.le_refl 0) (Nat.le_of_ble_eq_true rfl) ?_
  refine jG_aload_n F dX2_mayPlay_4 rfl ?_
  refine jg_X2_32 F dX2_mayPlay_5 (jpG_o hg) rfl ?_
  refine jG_icmp_ne F 33 dX2_mayPlay_8 (by decide) (fun q => ?_) (fun q => ?_)
  · have q : ¬ d % 4 = tu := fun z => q (by rw [z])
    refine jG_iconst F (v := (0 : Int32)) dX2_mayPlay_33 (by decide) ?_
    exact jG_iret F T ((jB01_neg (fun z => q z.1)).symm) rfl (by first | rfl | exact jnarb _ | (split <;> rfl)) dX2_mayPlay_34
  · have q : d % 4 = tu := (nI_eq (by omega) (by omega)).mp q
    refine jG_aload_n F dX2_mayPlay_11 rfl ?_
    refine jg_X2_12 F dX2_mayPlay_12 (jpG_o hg) rfl ?_
    refine jG_iload_n F dX2_mayPlay_15 rfl ?_
    refine jc_X2_62 F dX2_mayPlay_16 (c_X1_isFree (jhg hg)) (jpB_o (jhg hg)) (by decide) (Nat.le_refl 0) (Nat.le_refl 0) (Nat.le_of_ble_eq_true rfl) ?_
    refine jG_if_eq F 33 dX2_mayPlay_19 (by decide) (fun q2 => ?_) (fun q2 => ?_)
    · have q2 := jB01_eq q2
      refine jG_iconst F (v := (0 : Int32)) dX2_mayPlay_33 (by decide) ?_
      exact jG_iret F T ((jB01_neg (fun z => q2 z.2.1)).symm) rfl (by first | rfl | exact jnarb _ | (split <;> rfl)) dX2_mayPlay_34
    · have q2 := jB01_ne q2
      refine jG_aload_n F dX2_mayPlay_22 rfl ?_
      refine jc_X2_66 F dX2_mayPlay_23 (c_X2_isOver hg) (jpG_o hg) (by decide) (Nat.le_refl 0) (Nat.le_refl 0) (Nat.le_of_ble_eq_true rfl) ?_
      refine jG_if_ne F 33 dX2_mayPlay_26 (by decide) (fun q3 => ?_) (fun q3 => ?_)
      · have q3 := jB01_ne q3
        refine jG_iconst F (v := (0 : Int32)) dX2_mayPlay_33 (by decide) ?_
        exact jG_iret F T ((jB01_neg (fun z => z.2.2 q3)).symm) rfl (by first | rfl | exact jnarb _ | (split <;> rfl)) dX2_mayPlay_34
      · have q3 := jB01_eq q3
        refine jG_iconst F (v := (1 : Int32)) dX2_mayPlay_29 (by decide) ?_
        refine jG_goto F 34 dX2_mayPlay_30 (by decide) ?_
        exact jG_iret F T ((jB01_pos ⟨q, q2, q3⟩).symm) rfl (by first | rfl | exact jnarb _ | (split <;> rfl)) dX2_mayPlay_34
theorem c_X2_changeRough {v : Int32} (hg : g + 4 < h.length) : jMd l E yX2_changeRough cX2_changeRough 3 (some .int) 0 [.ref (E.1 + g), .int v] (jp13 E h g xs ys cv ly cu cd ro ru ti se tu go rd) (some (.int ro)) (jp13 E h g xs ys cv ly cu cd v ru ti se tu go rd) 0 0 := by
  refine jMd_of (by decide) (Nat.le_of_ble_eq_true rfl) (by simp [Value.category]) (by first | rfl | simp [jpG_len, jpB_len]) (fun x hx F T hm => ?_)
  refine jG_aload_n F dX2_changeRough_0 rfl ?_
  refine jg_X2_18 F dX2_changeRough_1 (jpG_o hg) rfl ?_
  refine jG_istore_n_2n F dX2_changeRough_4 (by decide) ?_
  refine jG_aload_n F dX2_changeRough_5 rfl ?_
  refine jG_iload_n F dX2_changeRough_6 rfl ?_
  refine jp_X2_18 F dX2_changeRough_7 (jpG_o hg) rfl rfl (Nat.le_of_ble_eq_true rfl) ?_
  refine jG_eq rfl rfl jpG_put_rough ?_
  refine jG_iload_n F dX2_changeRough_10 rfl ?_
  exact jG_iret F T (rfl) rfl (by first | rfl | exact jnarb _ | (split <;> rfl)) dX2_changeRough_11
theorem c_X2_changeRun {v : Int32} (hg : g + 4 < h.length) : jMd l E yX2_changeRun cX2_changeRun 3 (some .int) 0 [.ref (E.1 + g), .int v] (jp13 E h g xs ys cv ly cu cd ro ru ti se tu go rd) (some (.int ru)) (jp13 E h g xs ys cv ly cu cd ro v ti se tu go rd) 0 0 := by
  refine jMd_of (by decide) (Nat.le_of_ble_eq_true rfl) (by simp [Value.category]) (by first | rfl | simp [jpG_len, jpB_len]) (fun x hx F T hm => ?_)
  refine jG_aload_n F dX2_changeRun_0 rfl ?_
  refine jg_X2_22 F dX2_changeRun_1 (jpG_o hg) rfl ?_
  refine jG_istore_n_2n F dX2_changeRun_4 (by decide) ?_
  refine jG_aload_n F dX2_changeRun_5 rfl ?_
  refine jG_iload_n F dX2_changeRun_6 rfl ?_
  refine jp_X2_22 F dX2_changeRun_7 (jpG_o hg) rfl rfl (Nat.le_of_ble_eq_true rfl) ?_
  refine jG_eq rfl rfl jpG_put_run ?_
  refine jG_iload_n F dX2_changeRun_10 rfl ?_
  exact jG_iret F T (rfl) rfl (by first | rfl | exact jnarb _ | (split <;> rfl)) dX2_changeRun_11
theorem c_X2_stepTurn (hg : g + 4 < h.length) (ht : tu < 4) : jMd l E yX2_stepTurn cX2_stepTurn 1 none 1 [.ref (E.1 + g)] (jp13 E h g xs ys cv ly cu cd ro ru ti se tu go rd) none (jp13 E h g xs ys cv ly cu cd ro ru ti se (jstep ti go (tu, rd)).1 go (jstep ti go (tu, rd)).2) 0 0 := by
  refine jMd_of (by decide) (Nat.le_of_ble_eq_true rfl) (by simp [Value.category]) (by first | rfl | simp [jpG_len, jpB_len]) (fun x hx F T hm => ?_)
  refine jG_aload_n F dX2_stepTurn_0 rfl ?_
  refine jG_aload_n F dX2_stepTurn_1 rfl ?_
  refine jg_X2_32 F dX2_stepTurn_2 (jpG_o hg) rfl ?_
  refine jc_X2_113 F dX2_stepTurn_5 (c_X2_nextInRound ht) (by decide) (Nat.le_refl 0) (Nat.le_refl 0) (Nat.le_of_ble_eq_true rfl) ?_
  refine jp_X2_32 F dX2_stepTurn_8 (jpG_o hg) rfl rfl (Nat.le_of_ble_eq_true rfl) ?_
  refine jG_eq rfl rfl jpG_put_turn ?_
  refine jG_aload_n F dX2_stepTurn_11 rfl ?_
  refine jg_X2_32 F dX2_stepTurn_12 (jpG_o hg) rfl ?_
  refine jG_if_ne F 35 dX2_stepTurn_15 (by decide) (fun q => ?_) (fun q => ?_)
  · have q : ¬ (tu + 1) % 4 = 0 := fun z => q (by rw [z]; rfl)
    exact jG_ret F T (by rw [show jstep ti go (tu, rd) = ((tu + 1) % 4, rd) from by simp [jstep, q]]) dX2_stepTurn_35
  · have q : (tu + 1) % 4 = 0 := (nI_eq (by omega) (by decide)).mp (q.trans nI_0.symm)
    refine jG_aload_n F dX2_stepTurn_18 rfl ?_
    refine jc_X2_48 F dX2_stepTurn_19 (c_X2_isTimeCome hg) (jpG_o hg) (by decide) (Nat.le_refl 0) (Nat.le_refl 0) (Nat.le_of_ble_eq_true rfl) ?_
    refine jG_if_eq F 35 dX2_stepTurn_22 (by decide) (fun q2 => ?_) (fun q2 => ?_)
    · have q2 := jB01_eq q2
      exact jG_ret F T (by rw [show jstep ti go (tu, rd) = ((tu + 1) % 4, rd) from by simp [jstep, q, q2]]) dX2_stepTurn_35
    · have q2 := jB01_ne q2
      refine jG_aload_n F dX2_stepTurn_25 rfl ?_
      refine jG_dup F dX2_stepTurn_26 rfl ?_
      refine jg_X2_38 F dX2_stepTurn_27 (jpG_o hg) rfl ?_
      refine jG_iconst F (v := (1 : Int32)) dX2_stepTurn_30 (by decide) ?_
      refine jG_iadd F dX2_stepTurn_31 ?_
      refine jp_X2_38 F dX2_stepTurn_32 (jpG_o hg) rfl rfl (Nat.le_of_ble_eq_true rfl) ?_
      refine jG_eq rfl rfl jpG_put_rounds ?_
      exact jG_ret F T (by rw [show jstep ti go (tu, rd) = ((tu + 1) % 4, rd + 1) from by simp [jstep, q, q2]]) dX2_stepTurn_35
theorem c_X2_endTurn {b : Int32} (hg : g + 4 < h.length) (ht : tu < 4) : jMd l E yX2_endTurn cX2_endTurn 3 none 2 [.ref (E.1 + g), .int b] (jp13 E h g xs ys cv ly cu cd ro ru ti se tu go rd) none (jp13 E h g xs ys cv ly cu cd ro ru ti se (jend ti (go + 1) (jfree cu cd) (¬ b = 0) (tu, rd)).1 (go + 1) (jend ti (go + 1) (jfree cu cd) (¬ b = 0) (tu, rd)).2) 0 0 := by
  refine jMd_of (by decide) (Nat.le_of_ble_eq_true rfl) (by simp [Value.category]) (by first | rfl | simp [jpG_len, jpB_len]) (fun x hx F T hm => ?_)
  have loop : ∀ n, n ≤ 4 → ∀ (t : Nat) (r : Int32), t < 4 → jskip ti (go + 1) (jfree cu cd) n (t, r) = jend ti (go + 1) (jfree cu cd) (¬ b = 0) (tu, rd) → jG E x 0 0 20 [.ref (E.1 + g), .int b, .int (nI (4 - n))] [] (jp13 E h g xs ys cv ly cu cd ro ru ti se t (go + 1) r) := by
    intro n
    induction n with
    | zero =>
      intro _ t r h0 h1
      refine jG_iload_n F dX2_endTurn_20 rfl ?_
      refine jG_iconst F (v := nI 4) dX2_endTurn_21 (by decide) ?_
      refine jG_icmp_ge F 49 dX2_endTurn_22 (by decide) (fun _ => ?_) (fun q => absurd (nI_le (Nat.le_refl 4) (by decide)) q)
      exact jG_ret F T (by rw [← h1]; rfl) dX2_endTurn_49
    | succ n ih =>
      intro hn t r h0 h1
      refine jG_iload_n F dX2_endTurn_20 rfl ?_
      refine jG_iconst F (v := nI 4) dX2_endTurn_21 (by decide) ?_
      refine jG_icmp_ge F 49 dX2_endTurn_22 (by decide) (fun q => absurd q (nI_ge (show 4 - (n + 1) < 4 by omega) (by decide))) (fun _ => ?_)
      refine jG_aload_n F dX2_endTurn_25 rfl ?_
      refine jg_X2_12 F dX2_endTurn_26 (jpG_o hg) rfl ?_
      refine jG_aload_n F dX2_endTurn_29 rfl ?_
      refine jg_X2_32 F dX2_endTurn_30 (jpG_o hg) rfl ?_
      refine jc_X2_110 F dX2_endTurn_33 (c_X1_freeOf (jhg hg)) (jpB_o (jhg hg)) (by decide) (Nat.le_refl 0) (Nat.le_refl 0) (Nat.le_of_ble_eq_true rfl) ?_
      refine jG_if_ne F 49 dX2_endTurn_36 (by decide) (fun q => ?_) (fun q => ?_)
      · exact jG_ret F T (by rw [← h1, show jskip ti (go + 1) (jfree cu cd) (n + 1) (t, r) = (t, r) from if_neg q]) dX2_endTurn_49
      · refine jG_aload_n F dX2_endTurn_39 rfl ?_
        refine jc_X2_107 F dX2_endTurn_40 (c_X2_stepTurn hg h0) (jpG_o hg) (by decide) (Nat.le_refl 0) (Nat.le_refl 0) (Nat.le_of_ble_eq_true rfl) ?_
        refine jG_iinc_2 F (w := nI (4 - n)) dX2_endTurn_43 ((jinc (4 - (n + 1))).trans (by rw [show 4 - (n + 1) + 1 = 4 - n by omega])) (by decide) ?_
        refine jG_goto F 20 dX2_endTurn_46 (by decide) ?_
        exact ih (by omega) _ _ (jstep_lt _ _ _) (by rw [← h1]; exact (if_pos q).symm)
  refine jG_aload_n F dX2_endTurn_0 rfl ?_
  refine jG_dup F dX2_endTurn_1 rfl ?_
  refine jg_X2_35 F dX2_endTurn_2 (jpG_o hg) rfl ?_
  refine jG_iconst F (v := (1 : Int32)) dX2_endTurn_5 (by decide) ?_
  refine jG_iadd F dX2_endTurn_6 ?_
  refine jp_X2_35 F dX2_endTurn_7 (jpG_o hg) rfl rfl (Nat.le_of_ble_eq_true rfl) ?_
  refine jG_eq rfl rfl jpG_put_gone ?_
  refine jG_iload_n F dX2_endTurn_10 rfl ?_
  refine jG_if_ne F 18 dX2_endTurn_11 (by decide) (fun q => ?_) (fun q => ?_)
  · refine jG_iconst F (v := nI 0) dX2_endTurn_18 (by decide) ?_
    refine jG_istore_n_2n F dX2_endTurn_19 (by decide) ?_
    exact loop 4 (by omega) tu rd ht (by unfold jend; rw [if_pos q])
  · refine jG_aload_n F dX2_endTurn_14 rfl ?_
    refine jc_X2_107 F dX2_endTurn_15 (c_X2_stepTurn hg ht) (jpG_o hg) (by decide) (Nat.le_refl 0) (Nat.le_refl 0) (Nat.le_of_ble_eq_true rfl) ?_
    refine jG_iconst F (v := nI 0) dX2_endTurn_18 (by decide) ?_
    refine jG_istore_n_2n F dX2_endTurn_19 (by decide) ?_
    exact loop 4 (by omega) _ _ (jstep_lt _ _ _) (by unfold jend; rw [if_neg (fun z => z q)])
theorem c_X2_passOverWithoutRounds (hg : g + 4 < h.length) (ht : tu < 4) : jMd l E yX2_passOverWithoutRounds cX2_passOverWithoutRounds 2 none 2 [.ref (E.1 + g)] (jp13 E h g xs ys cv ly cu cd ro ru ti se tu go rd) none (jp13 E h g xs ys cv ly cu cd ro ru ti se (if jovr cu rd then tu else jskipT (jfree cu cd) 4 tu) go rd) 0 0 := by
  refine jMd_of (by decide) (Nat.le_of_ble_eq_true rfl) (by simp [Value.category]) (by first | rfl | simp [jpG_len, jpB_len]) (fun x hx F T hm => ?_)
  have loop : ∀ n, n ≤ 4 → ∀ (t : Nat), t < 4 → (if jovr cu rd then t else jskipT (jfree cu cd) n t) = (if jovr cu rd then tu else jskipT (jfree cu cd) 4 tu) → jG E x 0 0 2 [.ref (E.1 + g), .int (nI (4 - n))] [] (jp13 E h g xs ys cv ly cu cd ro ru ti se t go rd) := by
    intro n
    induction n with
    | zero =>
      intro _ t h0 h1
      refine jG_iload_n F dX2_passOverWithoutRounds_2 rfl ?_
      refine jG_iconst F (v := nI 4) dX2_passOverWithoutRounds_3 (by decide) ?_
      refine jG_icmp_ge F 45 dX2_passOverWithoutRounds_4 (by decide) (fun _ => ?_) (fun q => absurd (nI_le (Nat.le_refl 4) (by decide)) q)
      exact jG_ret F T (by rw [← h1]; simp [jskipT]) dX2_passOverWithoutRounds_45
    | succ n ih =>
      intro hn t h0 h1
      refine jG_iload_n F dX2_passOverWithoutRounds_2 rfl ?_
      refine jG_iconst F (v := nI 4) dX2_passOverWithoutRounds_3 (by decide) ?_
      refine jG_icmp_ge F 45 dX2_passOverWithoutRounds_4 (by decide) (fun q => absurd q (nI_ge (show 4 - (n + 1) < 4 by omega) (by decide))) (fun _ => ?_)
      refine jG_aload_n F dX2_passOverWithoutRounds_7 rfl ?_
      refine jc_X2_66 F dX2_passOverWithoutRounds_8 (c_X2_isOver hg) (jpG_o hg) (by decide) (Nat.le_refl 0) (Nat.le_refl 0) (Nat.le_of_ble_eq_true rfl) ?_
      refine jG_if_ne F 45 dX2_passOverWithoutRounds_11 (by decide) (fun q => ?_) (fun q => ?_)
      · have q := jB01_ne q
        exact jG_ret F T (by rw [← h1, if_pos q]) dX2_passOverWithoutRounds_45
      · have q := jB01_eq q
        refine jG_aload_n F dX2_passOverWithoutRounds_14 rfl ?_
        refine jg_X2_12 F dX2_passOverWithoutRounds_15 (jpG_o hg) rfl ?_
        refine jG_aload_n F dX2_passOverWithoutRounds_18 rfl ?_
        refine jg_X2_32 F dX2_passOverWithoutRounds_19 (jpG_o hg) rfl ?_
        refine jc_X2_110 F dX2_passOverWithoutRounds_22 (c_X1_freeOf (jhg hg)) (jpB_o (jhg hg)) (by decide) (Nat.le_refl 0) (Nat.le_refl 0) (Nat.le_of_ble_eq_true rfl) ?_
        refine jG_if_ne F 45 dX2_passOverWithoutRounds_25 (by decide) (fun q2 => ?_) (fun q2 => ?_)
        · exact jG_ret F T (by rw [← h1, if_neg q, show jskipT (jfree cu cd) (n + 1) t = t from if_neg q2]) dX2_passOverWithoutRounds_45
        · refine jG_aload_n F dX2_passOverWithoutRounds_28 rfl ?_
          refine jG_aload_n F dX2_passOverWithoutRounds_29 rfl ?_
          refine jg_X2_32 F dX2_passOverWithoutRounds_30 (jpG_o hg) rfl ?_
          refine jc_X2_113 F dX2_passOverWithoutRounds_33 (c_X2_nextInRound h0) (by decide) (Nat.le_refl 0) (Nat.le_refl 0) (Nat.le_of_ble_eq_true rfl) ?_
          refine jp_X2_32 F dX2_passOverWithoutRounds_36 (jpG_o hg) rfl rfl (Nat.le_of_ble_eq_true rfl) ?_
          refine jG_eq rfl rfl jpG_put_turn ?_
          refine jG_iinc_1 F (w := nI (4 - n)) dX2_passOverWithoutRounds_39 ((jinc (4 - (n + 1))).trans (by rw [show 4 - (n + 1) + 1 = 4 - n by omega])) (by decide) ?_
          refine jG_goto F 2 dX2_passOverWithoutRounds_42 (by decide) ?_
          exact ih (by omega) _ (Nat.mod_lt _ (by decide)) (by rw [← h1, if_neg q, if_neg q]; exact (if_pos q2).symm)
  refine jG_iconst F (v := nI 0) dX2_passOverWithoutRounds_0 (by decide) ?_
  refine jG_istore_n_1n F dX2_passOverWithoutRounds_1 (by decide) ?_
  exact loop 4 (by omega) tu ht rfl
theorem c_X2_changeTime {v : Int32} (hg : g + 4 < h.length) (ht : tu < 4) : jMd l E yX2_changeTime cX2_changeTime 3 (some .int) 3 [.ref (E.1 + g), .int v] (jp13 E h g xs ys cv ly cu cd ro ru ti se tu go rd) (some (.int (if v < go then -2 else ti))) (if v < go then jp13 E h g xs ys cv ly cu cd ro ru ti se tu go rd else if v ≤ go then jp13 E h g xs ys cv ly cu cd ro ru v se tu go rd else jp13 E h g xs ys cv ly cu cd ro ru v se (if jovr cu 0 then tu else jskipT (jfree cu cd) 4 tu) go 0) 0 0 := by
  refine jMd_of (by decide) (Nat.le_of_ble_eq_true rfl) (by simp [Value.category]) (by (repeat' split) <;> simp [jpG_len]) (fun x hx F T hm => ?_)
  refine jG_iload_n F dX2_changeTime_0 rfl ?_
  refine jG_aload_n F dX2_changeTime_1 rfl ?_
  refine jg_X2_35 F dX2_changeTime_2 (jpG_o hg) rfl ?_
  refine jG_icmp_ge F 11 dX2_changeTime_5 (by decide) (fun q => ?_) (fun q => ?_)
  · have q : ¬ v < go := Int32.not_lt.mpr q
    rw [if_neg q, if_neg q] at T
    refine jG_aload_n F dX2_changeTime_11 rfl ?_
    refine jg_X2_25 F dX2_changeTime_12 (jpG_o hg) rfl ?_
    refine jG_istore_n_2n F dX2_changeTime_15 (by decide) ?_
    refine jG_aload_n F dX2_changeTime_16 rfl ?_
    refine jG_iload_n F dX2_changeTime_17 rfl ?_
    refine jp_X2_25 F dX2_changeTime_18 (jpG_o hg) rfl rfl (Nat.le_of_ble_eq_true rfl) ?_
    refine jG_eq rfl rfl jpG_put_time ?_
    refine jG_aload_n F dX2_changeTime_21 rfl ?_
    refine jc_X2_48 F dX2_changeTime_22 (c_X2_isTimeCome hg) (jpG_o hg) (by decide) (Nat.le_refl 0) (Nat.le_refl 0) (Nat.le_of_ble_eq_true rfl) ?_
    refine jG_if_ne F 37 dX2_changeTime_25 (by decide) (fun q2 => ?_) (fun q2 => ?_)
    · have q2 := jB01_ne q2
      rw [if_pos q2] at T
      refine jG_iload_n F dX2_changeTime_37 rfl ?_
      exact jG_iret F T (rfl) rfl (by first | rfl | exact jnarb _ | (split <;> rfl)) dX2_changeTime_38
    · have q2 := jB01_eq q2
      rw [if_neg q2] at T
      refine jG_aload_n F dX2_changeTime_28 rfl ?_
      refine jG_iconst F (v := (0 : Int32)) dX2_changeTime_29 (by decide) ?_
      refine jp_X2_38 F dX2_changeTime_30 (jpG_o hg) rfl rfl (Nat.le_of_ble_eq_true rfl) ?_
      refine jG_eq rfl rfl jpG_put_rounds ?_
      refine jG_aload_n F dX2_changeTime_33 rfl ?_
      refine jc_X2_52 F dX2_changeTime_34 (c_X2_passOverWithoutRounds hg ht) (jpG_o hg) (by decide) (Nat.le_refl 0) (Nat.le_refl 0) (Nat.le_of_ble_eq_true rfl) ?_
      refine jG_iload_n F dX2_changeTime_37 rfl ?_
      exact jG_iret F T (rfl) rfl (by first | rfl | exact jnarb _ | (split <;> rfl)) dX2_changeTime_38
  · have q : v < go := Int32.not_le.mp q
    rw [if_pos q, if_pos q] at T
    refine jG_bipush F (v := (-2 : Int32)) dX2_changeTime_8 (by decide) ?_
    exact jG_iret F T (rfl) rfl (by first | rfl | exact jnarb _ | (split <;> rfl)) dX2_changeTime_10
theorem c_X2_playerBehind (hg : g + 4 < h.length) (ht : tu < 4) : jMd l E yX2_playerBehind cX2_playerBehind 3 (some .int) 1 [.ref (E.1 + g)] (jp13 E h g xs ys cv ly cu cd ro ru ti se tu go rd) (some (.int (nI (jskipT (jfree cu cd) 4 ((tu + 1) % 4))))) (jp13 E h g xs ys cv ly cu cd ro ru ti se tu go rd) 0 0 := by
  refine jMd_of (by decide) (Nat.le_of_ble_eq_true rfl) (by simp [Value.category]) (by first | rfl | simp [jpG_len, jpB_len]) (fun x hx F T hm => ?_)
  have loop : ∀ n, n ≤ 4 → ∀ (t : Nat), t < 4 → jskipT (jfree cu cd) n t = jskipT (jfree cu cd) 4 ((tu + 1) % 4) → jG E x 0 0 10 [.ref (E.1 + g), .int (nI t), .int (nI (4 - n))] [] (jp13 E h g xs ys cv ly cu cd ro ru ti se tu go rd) := by
    intro n
    induction n with
    | zero =>
      intro _ t h0 h1
      refine jG_iload_n F dX2_playerBehind_10 rfl ?_
      refine jG_iconst F (v := nI 4) dX2_playerBehind_11 (by decide) ?_
      refine jG_icmp_ge F 37 dX2_playerBehind_12 (by decide) (fun _ => ?_) (fun q => absurd (nI_le (Nat.le_refl 4) (by decide)) q)
      refine jG_iload_n F dX2_playerBehind_37 rfl ?_
      exact jG_iret F T (by rw [← h1]; rfl) rfl (by first | rfl | exact jnarb _ | (split <;> rfl)) dX2_playerBehind_38
    | succ n ih =>
      intro hn t h0 h1
      refine jG_iload_n F dX2_playerBehind_10 rfl ?_
      refine jG_iconst F (v := nI 4) dX2_playerBehind_11 (by decide) ?_
      refine jG_icmp_ge F 37 dX2_playerBehind_12 (by decide) (fun q => absurd q (nI_ge (show 4 - (n + 1) < 4 by omega) (by decide))) (fun _ => ?_)
      refine jG_aload_n F dX2_playerBehind_15 rfl ?_
      refine jg_X2_12 F dX2_playerBehind_16 (jpG_o hg) rfl ?_
      refine jG_iload_n F dX2_playerBehind_19 rfl ?_
      refine jc_X2_110 F dX2_playerBehind_20 (c_X1_freeOf (jhg hg)) (jpB_o (jhg hg)) (by decide) (Nat.le_refl 0) (Nat.le_refl 0) (Nat.le_of_ble_eq_true rfl) ?_
      refine jG_if_ne F 37 dX2_playerBehind_23 (by decide) (fun q => ?_) (fun q => ?_)
      · refine jG_iload_n F dX2_playerBehind_37 rfl ?_
        exact jG_iret F T (by rw [← h1, show jskipT (jfree cu cd) (n + 1) t = t from if_neg q]) rfl (by first | rfl | exact jnarb _ | (split <;> rfl)) dX2_playerBehind_38
      · refine jG_iload_n F dX2_playerBehind_26 rfl ?_
        refine jc_X2_113 F dX2_playerBehind_27 (c_X2_nextInRound h0) (by decide) (Nat.le_refl 0) (Nat.le_refl 0) (Nat.le_of_ble_eq_true rfl) ?_
        refine jG_istore_n_1e F dX2_playerBehind_30 (by decide) ?_
        refine jG_iinc_2 F (w := nI (4 - n)) dX2_playerBehind_31 ((jinc (4 - (n + 1))).trans (by rw [show 4 - (n + 1) + 1 = 4 - n by omega])) (by decide) ?_
        refine jG_goto F 10 dX2_playerBehind_34 (by decide) ?_
        exact ih (by omega) _ (Nat.mod_lt _ (by decide)) (by rw [← h1]; exact (if_pos q).symm)
  refine jG_aload_n F dX2_playerBehind_0 rfl ?_
  refine jg_X2_32 F dX2_playerBehind_1 (jpG_o hg) rfl ?_
  refine jc_X2_113 F dX2_playerBehind_4 (c_X2_nextInRound ht) (by decide) (Nat.le_refl 0) (Nat.le_refl 0) (Nat.le_of_ble_eq_true rfl) ?_
  refine jG_istore_n_1n F dX2_playerBehind_7 (by decide) ?_
  refine jG_iconst F (v := nI 0) dX2_playerBehind_8 (by decide) ?_
  refine jG_istore_n_2n F dX2_playerBehind_9 (by decide) ?_
  exact loop 4 (by omega) _ (Nat.mod_lt _ (by decide)) rfl
theorem c_X2_drawOff {sp : Int32} (hg : g + 4 < h.length) (hs : ¬ (2 * sp + 1).toInt64 = 0) : jMd l E yX2_drawOff cX2_drawOff 2 (some .int) 0 [.ref (E.1 + g), .int sp] (jp13 E h g xs ys cv ly cu cd ro ru ti se tu go rd) (some (.int (jdraw se sp))) (jp13 E h g xs ys cv ly cu cd ro ru ti (jseed se) tu go rd) 0 0 := by
  refine jMd_of (by decide) (Nat.le_of_ble_eq_true rfl) (by simp [Value.category]) (by first | rfl | simp [jpG_len, jpB_len]) (fun x hx F T hm => ?_)
  refine jG_aload_n F dX2_drawOff_0 rfl ?_
  refine jG_aload_n F dX2_drawOff_1 rfl ?_
  refine jg_X2_28 F dX2_drawOff_2 (jpG_o hg) rfl ?_
  refine jG_ldc2 F (v := 48271) dX2_drawOff_5 (by decide +kernel) ?_
  refine jG_lmul F dX2_drawOff_8 ?_
  refine jG_ldc2 F (v := 2147483647) dX2_drawOff_9 (by decide +kernel) ?_
  refine jG_lrem F dX2_drawOff_12 (by decide) ?_
  refine jp_X2_28 F dX2_drawOff_13 (jpG_o hg) rfl rfl (Nat.le_of_ble_eq_true rfl) ?_
  refine jG_eq rfl rfl jpG_put_seed ?_
  refine jG_aload_n F dX2_drawOff_16 rfl ?_
  refine jg_X2_28 F dX2_drawOff_17 (jpG_o hg) rfl ?_
  refine jG_iconst F (v := (2 : Int32)) dX2_drawOff_20 (by decide) ?_
  refine jG_iload_n F dX2_drawOff_21 rfl ?_
  refine jG_imul F dX2_drawOff_22 ?_
  refine jG_iconst F (v := (1 : Int32)) dX2_drawOff_23 (by decide) ?_
  refine jG_iadd F dX2_drawOff_24 ?_
  refine jG_i2l F dX2_drawOff_25 ?_
  refine jG_lrem F dX2_drawOff_26 hs ?_
  refine jG_l2i F dX2_drawOff_27 ?_
  refine jG_iload_n F dX2_drawOff_28 rfl ?_
  refine jG_isub F dX2_drawOff_29 ?_
  exact jG_iret F T (rfl) rfl (by first | rfl | exact jnarb _ | (split <;> rfl)) dX2_drawOff_30
theorem c_X2_beginAnew (hg : g + 4 < h.length) : jMd l E yX2_beginAnew cX2_beginAnew 1 none 4 [.ref (E.1 + g)] (jp13 E h g xs ys cv ly cu cd ro ru ti se tu go rd) none (jp6 E (h.set g (jgo E g ro ru ti se 0 0 0)) (g + 1) (jallF (xs, ys, cv, ly, cu, cd) 16).1 (jallF (xs, ys, cv, ly, cu, cd) 16).2.1 (jallF (xs, ys, cv, ly, cu, cd) 16).2.2.1 (jallF (xs, ys, cv, ly, cu, cd) 16).2.2.2.1 (jallF (xs, ys, cv, ly, cu, cd) 16).2.2.2.2.1 (jallF (xs, ys, cv, ly, cu, cd) 16).2.2.2.2.2) 0 0 := by
  refine jMd_of (by decide) (Nat.le_of_ble_eq_true rfl) (by simp [Value.category]) (by first | rfl | simp [jpG_len, jpB_len]) (fun x hx F T hm => ?_)
  refine jG_aload_n F dX2_beginAnew_0 rfl ?_
  refine jg_X2_12 F dX2_beginAnew_1 (jpG_o hg) rfl ?_
  refine jc_X2_41 F dX2_beginAnew_4 (c_X1_bringAllToBase (jhg hg)) (jpB_o (jhg hg)) (by decide) (Nat.le_refl 0) (Nat.le_refl 0) (Nat.le_of_ble_eq_true rfl) ?_
  refine jG_aload_n F dX2_beginAnew_7 rfl ?_
  refine jG_iconst F (v := nI 0) dX2_beginAnew_8 (by decide) ?_
  refine jp_X2_32 F dX2_beginAnew_9 (jpG_o hg) rfl rfl (Nat.le_of_ble_eq_true rfl) ?_
  refine jG_eq rfl rfl jpG_put_turn ?_
  refine jG_aload_n F dX2_beginAnew_12 rfl ?_
  refine jG_iconst F (v := (0 : Int32)) dX2_beginAnew_13 (by decide) ?_
  refine jp_X2_35 F dX2_beginAnew_14 (jpG_o hg) rfl rfl (Nat.le_of_ble_eq_true rfl) ?_
  refine jG_eq rfl rfl jpG_put_gone ?_
  refine jG_aload_n F dX2_beginAnew_17 rfl ?_
  refine jG_iconst F (v := (0 : Int32)) dX2_beginAnew_18 (by decide) ?_
  refine jp_X2_38 F dX2_beginAnew_19 (jpG_o hg) rfl rfl (Nat.le_of_ble_eq_true rfl) ?_
  refine jG_eq rfl rfl jpG_put_rounds ?_
  exact jG_ret F T (rfl) dX2_beginAnew_22
end GA
end
section
/-! ===== Board.copyFrom; Game: shots, copies ===== -/
theorem jend_congr {ti go : Int32} {fr : Nat → Int32} {b c : Prop} [Decidable b] [Decidable c] {q : Nat × Int32} (h : b ↔ c) : jend ti go fr b q = jend ti go fr c q := by
  unfold jend
  by_cases hb : b
  · rw [if_pos hb, if_pos (h.mp hb)]
  · rw [if_neg hb, if_neg (fun z => hb (h.mpr z))]
abbrev jpq (E : jE) (h : List va_E) (g : Nat) (B : jBT) (ro ru ti : Int32) (se : Int64) (go : Int32) (q : Nat × Int32) : List va_E := jp13 E h g B.1 B.2.1 B.2.2.1 B.2.2.2.1 B.2.2.2.2.1 B.2.2.2.2.2 ro ru ti se q.1 go q.2
/-- a turn's end behind the board B -/
abbrev jendB (B : jBT) (ti go : Int32) (b : Prop) [Decidable b] (q : Nat × Int32) : Nat × Int32 := jend ti go (jfree B.2.2.2.2.1 B.2.2.2.2.2) b q
def jspr (xs ys : Nat → Int32) (d : Nat) (ax ay ro : Int32) : Int32 := jway (xs d) (ys d) ax ay / 8 + jsz (nI d) - 1 + ro
abbrev jcup (a b : Int32) : Prop := (a - 20) * (a - 20) + (b - 20) * (b - 20) ≤ 4
/-- where a SHOT comes down -/
def jdx (xs ys : Nat → Int32) (d : Nat) (ax ay ro : Int32) (se : Int64) : Int32 := ax + jdraw se (jspr xs ys d ax ay ro)
def jdy (xs ys : Nat → Int32) (d : Nat) (ax ay ro : Int32) (se : Int64) : Int32 := ay + jdraw (jseed se) (jspr xs ys d ax ay ro)
def jshot (B : jBT) (d : Nat) (ax ay ro ru : Int32) (se : Int64) : jBT :=
  if jcup (jdx B.1 B.2.1 d ax ay ro se) (jdy B.1 B.2.1 d ax ay ro se) then jbringF B d 41 41
  else jbringF B d (jmat (jdx B.1 B.2.1 d ax ay ro se + ru * jsgn (ax - B.1 d))) (jmat (jdy B.1 B.2.1 d ax ay ro se + ru * jsgn (ay - B.2.1 d)))
def jblow (pl : Int32) (B : jBT) (se : Int64) : Nat → jBT × Int64
  | 0 => (B, se)
  | k + 1 => if pl &&& jbit k = 0 then jblow pl B se k else (jbringF (jblow pl B se k).1 k (jmat ((jblow pl B se k).1.1 k + jdraw (jblow pl B se k).2 3)) (jmat ((jblow pl B se k).1.2.1 k + jdraw (jseed (jblow pl B se k).2) 3)), jseed (jseed (jblow pl B se k).2))
theorem jpG_ne {E : jE} {h : List va_E} {g j : Nat} {xs ys cv : Nat → Int32} {ly cu cd ro ru ti go rd : Int32} {se : Int64} {tu : Nat} (hj : j < g ∨ g + 4 < j) : (jp13 E h g xs ys cv ly cu cd ro ru ti se tu go rd)[j]? = h[j]? := by
  rw [jpB_ne (by omega) (by omega) (by omega) (by omega), List.getElem?_set_ne (by omega)]
/-- a Board, a Game that stand in a heap -/
def jisB (E : jE) (h : List va_E) (i : Nat) (B : jBT) : Prop := h[i]? = some (jbo E i B.2.2.2.1 B.2.2.2.2.1 B.2.2.2.2.2) ∧ h[i + 1]? = some (jar E 16 B.1) ∧ h[i + 2]? = some (jar E 16 B.2.1) ∧ h[i + 3]? = some (jar E 16 B.2.2.1)
section GB
variable {l : Launch} {E : jE} {h : List va_E} {g d i j : Nat} {xs ys cv : Nat → Int32} {ly cu cd ro ru ti go rd : Int32} {se : Int64} {tu : Nat}
theorem c_X1_copyFrom {B : jBT} (hi : i + 3 < h.length) (hij : j + 3 < i ∨ i + 3 < j) (ho : jisB E h j B) : jMd l E yX1_copyFrom cX1_copyFrom 2 none 1 [.ref (E.1 + i), .ref (E.1 + j)] (jp6 E h i xs ys cv ly cu cd) none (jpB E h i B) 0 0 := by
  refine jMd_of (by decide) (Nat.le_of_ble_eq_true rfl) (by simp [Value.category]) (by first | rfl | simp [jpB_len]) (fun x hx F T hm => ?_)
  refine jG_aload_n F dX1_copyFrom_0 rfl ?_
  refine jg_X1_9 F dX1_copyFrom_1 ((jpB_ne (by omega) (by omega) (by omega) (by omega)).trans ho.1) rfl ?_
  refine jG_iconst F (v := (0 : Int32)) dX1_copyFrom_4 (by decide) ?_
  refine jG_aload_n F dX1_copyFrom_5 rfl ?_
  refine jg_X1_9 F dX1_copyFrom_6 (jpB_o hi) rfl ?_
  refine jG_iconst F (v := (0 : Int32)) dX1_copyFrom_9 (by decide) ?_
  refine jG_bipush F (v := (16 : Int32)) dX1_copyFrom_10 (by decide) ?_
  refine jG_copy F (n := 16) (jm 572 (by decide +kernel) (by decide +kernel)) (jm 574 (by decide +kernel) (by decide +kernel)) (jm 573 (by decide +kernel) (by decide +kernel)) (jm 54 (by decide +kernel) (by decide +kernel)) (by decide) rfl rfl rfl (by decide) ((jpB_ne (by omega) (by omega) (by omega) (by omega)).trans ho.2.1) (jpB_x hi) (Nat.le_of_ble_eq_true rfl) dX1_copyFrom_12 ?_
  refine jG_eq rfl rfl jpB_st_x ?_
  refine jG_aload_n F dX1_copyFrom_15 rfl ?_
  refine jg_X1_15 F dX1_copyFrom_16 ((jpB_ne (by omega) (by omega) (by omega) (by omega)).trans ho.1) rfl ?_
  refine jG_iconst F (v := (0 : Int32)) dX1_copyFrom_19 (by decide) ?_
  refine jG_aload_n F dX1_copyFrom_20 rfl ?_
  refine jg_X1_15 F dX1_copyFrom_21 (jpB_o hi) rfl ?_
  refine jG_iconst F (v := (0 : Int32)) dX1_copyFrom_24 (by decide) ?_
  refine jG_bipush F (v := (16 : Int32)) dX1_copyFrom_25 (by decide) ?_
  refine jG_copy F (n := 16) (jm 572 (by decide +kernel) (by decide +kernel)) (jm 574 (by decide +kernel) (by decide +kernel)) (jm 573 (by decide +kernel) (by decide +kernel)) (jm 54 (by decide +kernel) (by decide +kernel)) (by decide) rfl rfl rfl (by decide) ((jpB_ne (by omega) (by omega) (by omega) (by omega)).trans ho.2.2.1) (jpB_y hi) (Nat.le_of_ble_eq_true rfl) dX1_copyFrom_27 ?_
  refine jG_eq rfl rfl jpB_st_y ?_
  refine jG_aload_n F dX1_copyFrom_30 rfl ?_
  refine jg_X1_18 F dX1_copyFrom_31 ((jpB_ne (by omega) (by omega) (by omega) (by omega)).trans ho.1) rfl ?_
  refine jG_iconst F (v := (0 : Int32)) dX1_copyFrom_34 (by decide) ?_
  refine jG_aload_n F dX1_copyFrom_35 rfl ?_
  refine jg_X1_18 F dX1_copyFrom_36 (jpB_o hi) rfl ?_
  refine jG_iconst F (v := (0 : Int32)) dX1_copyFrom_39 (by decide) ?_
  refine jG_bipush F (v := (16 : Int32)) dX1_copyFrom_40 (by decide) ?_
  refine jG_copy F (n := 16) (jm 572 (by decide +kernel) (by decide +kernel)) (jm 574 (by decide +kernel) (by decide +kernel)) (jm 573 (by decide +kernel) (by decide +kernel)) (jm 54 (by decide +kernel) (by decide +kernel)) (by decide) rfl rfl rfl (by decide) ((jpB_ne (by omega) (by omega) (by omega) (by omega)).trans ho.2.2.2) (jpB_c hi) (Nat.le_of_ble_eq_true rfl) dX1_copyFrom_42 ?_
  refine jG_eq rfl rfl jpB_st_c ?_
  refine jG_aload_n F dX1_copyFrom_45 rfl ?_
  refine jG_aload_n F dX1_copyFrom_46 rfl ?_
  refine jg_X1_21 F dX1_copyFrom_47 ((jpB_ne (by omega) (by omega) (by omega) (by omega)).trans ho.1) rfl ?_
  refine jp_X1_21 F dX1_copyFrom_50 (jpB_o hi) rfl rfl (Nat.le_of_ble_eq_true rfl) ?_
  refine jG_eq rfl rfl jpB_put_lying ?_
  refine jG_aload_n F dX1_copyFrom_53 rfl ?_
  refine jG_aload_n F dX1_copyFrom_54 rfl ?_
  refine jg_X1_25 F dX1_copyFrom_55 ((jpB_ne (by omega) (by omega) (by omega) (by omega)).trans ho.1) rfl ?_
  refine jp_X1_25 F dX1_copyFrom_58 (jpB_o hi) rfl rfl (Nat.le_of_ble_eq_true rfl) ?_
  refine jG_eq rfl rfl jpB_put_inCup ?_
  refine jG_aload_n F dX1_copyFrom_61 rfl ?_
  refine jG_aload_n F dX1_copyFrom_62 rfl ?_
  refine jg_X1_28 F dX1_copyFrom_63 ((jpB_ne (by omega) (by omega) (by omega) (by omega)).trans ho.1) rfl ?_
  refine jp_X1_28 F dX1_copyFrom_66 (jpB_o hi) rfl rfl (Nat.le_of_ble_eq_true rfl) ?_
  refine jG_eq rfl rfl jpB_put_covered ?_
  exact jG_ret F T (rfl) dX1_copyFrom_69
theorem c_X2_copyFrom {B : jBT} {g2 : Nat} {ro2 ru2 ti2 go2 rd2 : Int32} {se2 : Int64} {tu2 : Nat} (hg : g + 4 < h.length) (hgg : g2 + 4 < g ∨ g + 4 < g2) (hog : h[g2]? = some (jgo E g2 ro2 ru2 ti2 se2 tu2 go2 rd2)) (ho : jisB E h (g2 + 1) B) : jMd l E yX2_copyFrom cX2_copyFrom 2 none 2 [.ref (E.1 + g), .ref (E.1 + g2)] (jp13 E h g xs ys cv ly cu cd ro ru ti se tu go rd) none (jpq E h g B ro2 ru2 ti2 se2 go2 (tu2, rd2)) 0 0 := by
  refine jMd_of (by decide) (Nat.le_of_ble_eq_true rfl) (by simp [Value.category]) (by first | rfl | simp [jpG_len, jpB_len]) (fun x hx F T hm => ?_)
  have hne : g2 < g ∨ g + 4 < g2 := by omega
  refine jG_aload_n F dX2_copyFrom_0 rfl ?_
  refine jg_X2_12 F dX2_copyFrom_1 (jpG_o hg) rfl ?_
  refine jG_aload_n F dX2_copyFrom_4 rfl ?_
  refine jg_X2_12 F dX2_copyFrom_5 ((jpG_ne hne).trans hog) rfl ?_
  refine jc_X2_44 F dX2_copyFrom_8 (c_X1_copyFrom (B := B) (jhg hg) (by omega) ⟨(List.getElem?_set_ne (by omega)).trans ho.1, (List.getElem?_set_ne (by omega)).trans ho.2.1, (List.getElem?_set_ne (by omega)).trans ho.2.2.1, (List.getElem?_set_ne (by omega)).trans ho.2.2.2⟩) (jpB_o (jhg hg)) (by decide) (Nat.le_refl 0) (Nat.le_refl 0) (Nat.le_of_ble_eq_true rfl) ?_
  refine jG_aload_n F dX2_copyFrom_11 rfl ?_
  refine jG_aload_n F dX2_copyFrom_12 rfl ?_
  refine jg_X2_18 F dX2_copyFrom_13 ((jpG_ne hne).trans hog) rfl ?_
  refine jp_X2_18 F dX2_copyFrom_16 (jpG_o hg) rfl rfl (Nat.le_of_ble_eq_true rfl) ?_
  refine jG_eq rfl rfl jpG_put_rough ?_
  refine jG_aload_n F dX2_copyFrom_19 rfl ?_
  refine jG_aload_n F dX2_copyFrom_20 rfl ?_
  refine jg_X2_22 F dX2_copyFrom_21 ((jpG_ne hne).trans hog) rfl ?_
  refine jp_X2_22 F dX2_copyFrom_24 (jpG_o hg) rfl rfl (Nat.le_of_ble_eq_true rfl) ?_
  refine jG_eq rfl rfl jpG_put_run ?_
  refine jG_aload_n F dX2_copyFrom_27 rfl ?_
  refine jG_aload_n F dX2_copyFrom_28 rfl ?_
  refine jg_X2_25 F dX2_copyFrom_29 ((jpG_ne hne).trans hog) rfl ?_
  refine jp_X2_25 F dX2_copyFrom_32 (jpG_o hg) rfl rfl (Nat.le_of_ble_eq_true rfl) ?_
  refine jG_eq rfl rfl jpG_put_time ?_
  refine jG_aload_n F dX2_copyFrom_35 rfl ?_
  refine jG_aload_n F dX2_copyFrom_36 rfl ?_
  refine jg_X2_28 F dX2_copyFrom_37 ((jpG_ne hne).trans hog) rfl ?_
  refine jp_X2_28 F dX2_copyFrom_40 (jpG_o hg) rfl rfl (Nat.le_of_ble_eq_true rfl) ?_
  refine jG_eq rfl rfl jpG_put_seed ?_
  refine jG_aload_n F dX2_copyFrom_43 rfl ?_
  refine jG_aload_n F dX2_copyFrom_44 rfl ?_
  refine jg_X2_32 F dX2_copyFrom_45 ((jpG_ne hne).trans hog) rfl ?_
  refine jp_X2_32 F dX2_copyFrom_48 (jpG_o hg) rfl rfl (Nat.le_of_ble_eq_true rfl) ?_
  refine jG_eq rfl rfl jpG_put_turn ?_
  refine jG_aload_n F dX2_copyFrom_51 rfl ?_
  refine jG_aload_n F dX2_copyFrom_52 rfl ?_
  refine jg_X2_35 F dX2_copyFrom_53 ((jpG_ne hne).trans hog) rfl ?_
  refine jp_X2_35 F dX2_copyFrom_56 (jpG_o hg) rfl rfl (Nat.le_of_ble_eq_true rfl) ?_
  refine jG_eq rfl rfl jpG_put_gone ?_
  refine jG_aload_n F dX2_copyFrom_59 rfl ?_
  refine jG_aload_n F dX2_copyFrom_60 rfl ?_
  refine jg_X2_38 F dX2_copyFrom_61 ((jpG_ne hne).trans hog) rfl ?_
  refine jp_X2_38 F dX2_copyFrom_64 (jpG_o hg) rfl rfl (Nat.le_of_ble_eq_true rfl) ?_
  refine jG_eq rfl rfl jpG_put_rounds ?_
  exact jG_ret F T (rfl) dX2_copyFrom_67
theorem c_X2_follow {a b : Int32} (hg : g + 4 < h.length) (hd : d < 16) (ht : tu < 4) : jMd l E yX2_follow cX2_follow 4 (some .boolean) 3 [.ref (E.1 + g), .int (nI d), .int a, .int b] (jp13 E h g xs ys cv ly cu cd ro ru ti se tu go rd) (some (.int (jB01 (d % 4 = tu ∧ (cu ||| cd) &&& jbit d = 0 ∧ ¬ jovr cu rd)))) (if d % 4 = tu ∧ (cu ||| cd) &&& jbit d = 0 ∧ ¬ jovr cu rd then jpq E h g (jbringF (xs, ys, cv, ly, cu, cd) d a b) ro ru ti se (go + 1) (jendB (jbringF (xs, ys, cv, ly, cu, cd) d a b) ti (go + 1) (a = 41) (tu, rd)) else jp13 E h g xs ys cv ly cu cd ro ru ti se tu go rd) 0 0 := by
  refine jMd_of (by decide) (Nat.le_of_ble_eq_true rfl) (by simp [Value.category]) (by (repeat' split) <;> simp [jpG_len]) (fun x hx F T hm => ?_)
  refine jG_aload_n F dX2_follow_0 rfl ?_
  refine jG_iload_n F dX2_follow_1 rfl ?_
  refine jc_X2_104 F dX2_follow_2 (c_X2_mayPlay hg hd ht) (jpG_o hg) (by decide) (Nat.le_refl 0) (Nat.le_refl 0) (Nat.le_of_ble_eq_true rfl) ?_
  refine jG_if_ne F 10 dX2_follow_5 (by decide) (fun q => ?_) (fun q => ?_)
  · have q := jB01_ne q
    rw [if_pos q, jB01_pos q] at T
    refine jG_aload_n F dX2_follow_10 rfl ?_
    refine jg_X2_12 F dX2_follow_11 (jpG_o hg) rfl ?_
    refine jG_iload_n F dX2_follow_14 rfl ?_
    refine jG_iload_n F dX2_follow_15 rfl ?_
    refine jG_iload_n F dX2_follow_16 rfl ?_
    refine jc_X2_90 F dX2_follow_17 (c_X1_bring (jhg hg) hd) (jpB_o (jhg hg)) (by decide) (Nat.le_refl 0) (Nat.le_refl 0) (Nat.le_of_ble_eq_true rfl) ?_
    refine jG_aload_n F dX2_follow_20 rfl ?_
    refine jG_iload_n F dX2_follow_21 rfl ?_
    refine jG_bipush F (v := (41 : Int32)) dX2_follow_22 (by decide) ?_
    refine jG_icmp_ne F 31 dX2_follow_24 (by decide) (fun q2 => ?_) (fun q2 => ?_)
    · rw [show jendB (jbringF (xs, ys, cv, ly, cu, cd) d a b) ti (go + 1) (a = 41) (tu, rd) = jend ti (go + 1) (jfree (jbringF (xs, ys, cv, ly, cu, cd) d a b).2.2.2.2.1 (jbringF (xs, ys, cv, ly, cu, cd) d a b).2.2.2.2.2) (¬ (0 : Int32) = 0) (tu, rd) from jend_congr ⟨fun z => absurd z q2, fun z => absurd rfl z⟩] at T
      refine jG_iconst F (v := (0 : Int32)) dX2_follow_31 (by decide) ?_
      refine jc_X2_100 F dX2_follow_32 (c_X2_endTurn hg ht) (jpG_o hg) (by decide) (Nat.le_refl 0) (Nat.le_refl 0) (Nat.le_of_ble_eq_true rfl) ?_
      refine jG_iconst F (v := (1 : Int32)) dX2_follow_35 (by decide) ?_
      exact jG_iret F T (rfl) rfl (by first | rfl | exact jnarb _ | (split <;> rfl)) dX2_follow_36
    · rw [show jendB (jbringF (xs, ys, cv, ly, cu, cd) d a b) ti (go + 1) (a = 41) (tu, rd) = jend ti (go + 1) (jfree (jbringF (xs, ys, cv, ly, cu, cd) d a b).2.2.2.2.1 (jbringF (xs, ys, cv, ly, cu, cd) d a b).2.2.2.2.2) (¬ (1 : Int32) = 0) (tu, rd) from jend_congr ⟨fun _ => by decide, fun _ => q2⟩] at T
      refine jG_iconst F (v := (1 : Int32)) dX2_follow_27 (by decide) ?_
      refine jG_goto F 32 dX2_follow_28 (by decide) ?_
      refine jc_X2_100 F dX2_follow_32 (c_X2_endTurn hg ht) (jpG_o hg) (by decide) (Nat.le_refl 0) (Nat.le_refl 0) (Nat.le_of_ble_eq_true rfl) ?_
      refine jG_iconst F (v := (1 : Int32)) dX2_follow_35 (by decide) ?_
      exact jG_iret F T (rfl) rfl (by first | rfl | exact jnarb _ | (split <;> rfl)) dX2_follow_36
  · have q := jB01_eq q
    rw [if_neg q, jB01_neg q] at T
    refine jG_iconst F (v := (0 : Int32)) dX2_follow_8 (by decide) ?_
    exact jG_iret F T (rfl) rfl (by first | rfl | exact jnarb _ | (split <;> rfl)) dX2_follow_9
theorem c_X2_playShot {a b : Int32} (hg : g + 4 < h.length) (hd : d < 16) (ht : tu < 4) (hs : ¬ (2 * jspr xs ys d a b ro + 1).toInt64 = 0) : jMd l E yX2_playShot cX2_playShot 12 (some .boolean) 3 [.ref (E.1 + g), .int (nI d), .int a, .int b] (jp13 E h g xs ys cv ly cu cd ro ru ti se tu go rd) (some (.int (jB01 (jcup (jdx xs ys d a b ro se) (jdy xs ys d a b ro se))))) (jpq E h g (jshot (xs, ys, cv, ly, cu, cd) d a b ro ru se) ro ru ti (jseed (jseed se)) (go + 1) (jendB (jshot (xs, ys, cv, ly, cu, cd) d a b ro ru se) ti (go + 1) (jcup (jdx xs ys d a b ro se) (jdy xs ys d a b ro se)) (tu, rd))) 0 0 := by
  refine jMd_of (by decide) (Nat.le_of_ble_eq_true rfl) (by simp [Value.category]) (by first | rfl | simp [jpG_len, jpB_len]) (fun x hx F T hm => ?_)
  refine jG_aload_n F dX2_playShot_0 rfl ?_
  refine jg_X2_12 F dX2_playShot_1 (jpG_o hg) rfl ?_
  refine jg_X2_69 F dX2_playShot_4 (jpB_o (jhg hg)) rfl ?_
  refine jG_iload_n F dX2_playShot_7 rfl ?_
  refine jG_iald F dX2_playShot_8 (jpB_x (jhg hg)) rfl (by omega) (by decide) ?_
  refine jG_istore_4n F dX2_playShot_9 (by decide) ?_
  refine jG_aload_n F dX2_playShot_11 rfl ?_
  refine jg_X2_12 F dX2_playShot_12 (jpG_o hg) rfl ?_
  refine jg_X2_73 F dX2_playShot_15 (jpB_o (jhg hg)) rfl ?_
  refine jG_iload_n F dX2_playShot_18 rfl ?_
  refine jG_iald F dX2_playShot_19 (jpB_y (jhg hg)) rfl (by omega) (by decide) ?_
  refine jG_istore_5n F dX2_playShot_20 (by decide) ?_
  refine jG_iload F dX2_playShot_22 rfl ?_
  refine jG_iload F dX2_playShot_24 rfl ?_
  refine jG_iload_n F dX2_playShot_26 rfl ?_
  refine jG_iload_n F dX2_playShot_27 rfl ?_
  refine jc_X2_76 F dX2_playShot_28 (c_X5_wayBetween) (by decide) (Nat.le_refl 0) (Nat.le_refl 0) (Nat.le_of_ble_eq_true rfl) ?_
  refine jG_bipush F (v := (8 : Int32)) dX2_playShot_31 (by decide) ?_
  refine jG_idiv F dX2_playShot_33 (by decide) ?_
  refine jG_iload_n F dX2_playShot_34 rfl ?_
  refine jc_X2_80 F dX2_playShot_35 (c_X5_sizeOf) (by decide) (Nat.le_refl 0) (Nat.le_refl 0) (Nat.le_of_ble_eq_true rfl) ?_
  refine jG_iadd F dX2_playShot_38 ?_
  refine jG_iconst F (v := (1 : Int32)) dX2_playShot_39 (by decide) ?_
  refine jG_isub F dX2_playShot_40 ?_
  refine jG_aload_n F dX2_playShot_41 rfl ?_
  refine jg_X2_18 F dX2_playShot_42 (jpG_o hg) rfl ?_
  refine jG_iadd F dX2_playShot_45 ?_
  refine jG_istore_6n F dX2_playShot_46 (by decide) ?_
  refine jG_iload_n F dX2_playShot_48 rfl ?_
  refine jG_aload_n F dX2_playShot_49 rfl ?_
  refine jG_iload F dX2_playShot_50 rfl ?_
  refine jc_X2_83 F dX2_playShot_52 (c_X2_drawOff (sp := jspr xs ys d a b ro) hg hs) (jpG_o hg) (by decide) (Nat.le_refl 0) (Nat.le_refl 0) (Nat.le_of_ble_eq_true rfl) ?_
  refine jG_iadd F dX2_playShot_55 ?_
  refine jG_istore_7n F dX2_playShot_56 (by decide) ?_
  refine jG_iload_n F dX2_playShot_58 rfl ?_
  refine jG_aload_n F dX2_playShot_59 rfl ?_
  refine jG_iload F dX2_playShot_60 rfl ?_
  refine jc_X2_83 F dX2_playShot_62 (c_X2_drawOff (sp := jspr xs ys d a b ro) hg hs) (jpG_o hg) (by decide) (Nat.le_refl 0) (Nat.le_refl 0) (Nat.le_of_ble_eq_true rfl) ?_
  refine jG_iadd F dX2_playShot_65 ?_
  refine jG_istore_8n F dX2_playShot_66 (by decide) ?_
  refine jG_eq (lv2 := [.ref (E.1 + g), .int (nI d), .int a, .int b, .int (xs d), .int (ys d), .int (jspr xs ys d a b ro), .int (jdx xs ys d a b ro se), .int (jdy xs ys d a b ro se)]) rfl rfl rfl ?_
  generalize hX : jdx xs ys d a b ro se = X at T
  generalize hY : jdy xs ys d a b ro se = Y at T
  refine jG_iload F dX2_playShot_68 rfl ?_
  refine jG_iload F dX2_playShot_70 rfl ?_
  refine jc_X2_86 F dX2_playShot_72 (c_X2_doesCupTake) (by decide) (Nat.le_refl 0) (Nat.le_refl 0) (Nat.le_of_ble_eq_true rfl) ?_
  refine jG_istore_9n F dX2_playShot_75 (by decide) ?_
  refine jG_iload F dX2_playShot_77 rfl ?_
  refine jG_if_eq F 97 dX2_playShot_79 (by decide) (fun q => ?_) (fun q => ?_)
  · have q : ¬ jcup X Y := jB01_eq q
    have e : jshot (xs, ys, cv, ly, cu, cd) d a b ro ru se = jbringF (xs, ys, cv, ly, cu, cd) d (jmat (X + ru * jsgn (a - xs d))) (jmat (Y + ru * jsgn (b - ys d))) := by
      rw [← hX, ← hY]; exact if_neg (by rw [← hX, ← hY] at q; exact q)
    rw [e] at T
    rw [show jendB (jbringF (xs, ys, cv, ly, cu, cd) d (jmat (X + ru * jsgn (a - xs d))) (jmat (Y + ru * jsgn (b - ys d)))) ti (go + 1) (jcup X Y) (tu, rd) = jendB (jbringF (xs, ys, cv, ly, cu, cd) d (jmat (X + ru * jsgn (a - xs d))) (jmat (Y + ru * jsgn (b - ys d)))) ti (go + 1) (¬ jB01 (jcup X Y) = 0) (tu, rd) from jend_congr ⟨fun z => absurd z q, fun z => jB01_ne z⟩] at T
    refine jG_iload F dX2_playShot_97 rfl ?_
    refine jG_aload_n F dX2_playShot_99 rfl ?_
    refine jg_X2_22 F dX2_playShot_100 (jpG_o hg) rfl ?_
    refine jG_iload_n F dX2_playShot_103 rfl ?_
    refine jG_iload F dX2_playShot_104 rfl ?_
    refine jG_isub F dX2_playShot_106 ?_
    refine jc_X2_94 F dX2_playShot_107 (c_X2_signOf) (by decide) (Nat.le_refl 0) (Nat.le_refl 0) (Nat.le_of_ble_eq_true rfl) ?_
    refine jG_imul F dX2_playShot_110 ?_
    refine jG_iadd F dX2_playShot_111 ?_
    refine jG_istore_10n F dX2_playShot_112 (by decide) ?_
    refine jG_iload F dX2_playShot_114 rfl ?_
    refine jG_aload_n F dX2_playShot_116 rfl ?_
    refine jg_X2_22 F dX2_playShot_117 (jpG_o hg) rfl ?_
    refine jG_iload_n F dX2_playShot_120 rfl ?_
    refine jG_iload F dX2_playShot_121 rfl ?_
    refine jG_isub F dX2_playShot_123 ?_
    refine jc_X2_94 F dX2_playShot_124 (c_X2_signOf) (by decide) (Nat.le_refl 0) (Nat.le_refl 0) (Nat.le_of_ble_eq_true rfl) ?_
    refine jG_imul F dX2_playShot_127 ?_
    refine jG_iadd F dX2_playShot_128 ?_
    refine jG_istore_11n F dX2_playShot_129 (by decide) ?_
    refine jG_aload_n F dX2_playShot_131 rfl ?_
    refine jg_X2_12 F dX2_playShot_132 (jpG_o hg) rfl ?_
    refine jG_iload_n F dX2_playShot_135 rfl ?_
    refine jG_iload F dX2_playShot_136 rfl ?_
    refine jc_X2_97 F dX2_playShot_138 (c_X2_nearestOnMat) (by decide) (Nat.le_refl 0) (Nat.le_refl 0) (Nat.le_of_ble_eq_true rfl) ?_
    refine jG_iload F dX2_playShot_141 rfl ?_
    refine jc_X2_97 F dX2_playShot_143 (c_X2_nearestOnMat) (by decide) (Nat.le_refl 0) (Nat.le_refl 0) (Nat.le_of_ble_eq_true rfl) ?_
    refine jc_X2_90 F dX2_playShot_146 (c_X1_bring (jhg hg) hd) (jpB_o (jhg hg)) (by decide) (Nat.le_refl 0) (Nat.le_refl 0) (Nat.le_of_ble_eq_true rfl) ?_
    refine jG_aload_n F dX2_playShot_149 rfl ?_
    refine jG_iload F dX2_playShot_150 rfl ?_
    refine jc_X2_100 F dX2_playShot_152 (c_X2_endTurn hg ht) (jpG_o hg) (by decide) (Nat.le_refl 0) (Nat.le_refl 0) (Nat.le_of_ble_eq_true rfl) ?_
    refine jG_iload F dX2_playShot_155 rfl ?_
    exact jG_iret F T (rfl) rfl (by first | rfl | exact jnarb _ | (split <;> rfl)) dX2_playShot_157
  · have q : jcup X Y := jB01_ne q
    have e : jshot (xs, ys, cv, ly, cu, cd) d a b ro ru se = jbringF (xs, ys, cv, ly, cu, cd) d 41 41 := if_pos (by rw [← hX, ← hY] at q; exact q)
    rw [e] at T
    rw [show jendB (jbringF (xs, ys, cv, ly, cu, cd) d 41 41) ti (go + 1) (jcup X Y) (tu, rd) = jendB (jbringF (xs, ys, cv, ly, cu, cd) d 41 41) ti (go + 1) (¬ jB01 (jcup X Y) = 0) (tu, rd) from jend_congr ⟨fun z => by rw [jB01_pos z]; decide, fun z => jB01_ne z⟩] at T
    refine jG_aload_n F dX2_playShot_82 rfl ?_
    refine jg_X2_12 F dX2_playShot_83 (jpG_o hg) rfl ?_
    refine jG_iload_n F dX2_playShot_86 rfl ?_
    refine jG_bipush F (v := (41 : Int32)) dX2_playShot_87 (by decide) ?_
    refine jG_bipush F (v := (41 : Int32)) dX2_playShot_89 (by decide) ?_
    refine jc_X2_90 F dX2_playShot_91 (c_X1_bring (jhg hg) hd) (jpB_o (jhg hg)) (by decide) (Nat.le_refl 0) (Nat.le_refl 0) (Nat.le_of_ble_eq_true rfl) ?_
    refine jG_goto F 149 dX2_playShot_94 (by decide) ?_
    refine jG_aload_n F dX2_playShot_149 rfl ?_
    refine jG_iload F dX2_playShot_150 rfl ?_
    refine jc_X2_100 F dX2_playShot_152 (c_X2_endTurn hg ht) (jpG_o hg) (by decide) (Nat.le_refl 0) (Nat.le_refl 0) (Nat.le_of_ble_eq_true rfl) ?_
    refine jG_iload F dX2_playShot_155 rfl ?_
    exact jG_iret F T (rfl) rfl (by first | rfl | exact jnarb _ | (split <;> rfl)) dX2_playShot_157
theorem c_X2_blowApart {pl : Int32} (hg : g + 4 < h.length) (ht : tu < 4) : jMd l E yX2_blowApart cX2_blowApart 5 none 3 [.ref (E.1 + g), .int pl] (jp13 E h g xs ys cv ly cu cd ro ru ti se tu go rd) none (jpq E h g (jblow pl (xs, ys, cv, ly, cu, cd) se 16).1 ro ru ti (jblow pl (xs, ys, cv, ly, cu, cd) se 16).2 (go + 1) (jendB (jblow pl (xs, ys, cv, ly, cu, cd) se 16).1 ti (go + 1) False (tu, rd))) 0 0 := by
  refine jMd_of (by decide) (Nat.le_of_ble_eq_true rfl) (by simp [Value.category]) (by first | rfl | simp [jpG_len, jpB_len]) (fun x hx F T hm => ?_)
  have loop : ∀ k, k ≤ 16 → ∀ r : List Value, jG E x 0 0 2 (.ref (E.1 + g) :: .int pl :: .int (nI k) :: r) [] (jpq E h g (jblow pl (xs, ys, cv, ly, cu, cd) se k).1 ro ru ti (jblow pl (xs, ys, cv, ly, cu, cd) se k).2 go (tu, rd)) := by
    refine jup 16 _ ?_ ?_
    · intro r
      refine jG_iload_n F dX2_blowApart_2 rfl ?_
      refine jG_bipush F (v := nI 16) dX2_blowApart_3 (by decide) ?_
      refine jG_icmp_ge F 72 dX2_blowApart_5 (by decide) (fun _ => ?_) (fun q => absurd (nI_le (Nat.le_refl 16) (by decide)) q)
      rw [show jendB (jblow pl (xs, ys, cv, ly, cu, cd) se 16).1 ti (go + 1) False (tu, rd) = jendB (jblow pl (xs, ys, cv, ly, cu, cd) se 16).1 ti (go + 1) (¬ (0 : Int32) = 0) (tu, rd) from jend_congr ⟨fun z => z.elim, fun z => z rfl⟩] at T
      refine jG_aload_n F dX2_blowApart_72 rfl ?_
      refine jG_iconst F (v := (0 : Int32)) dX2_blowApart_73 (by decide) ?_
      refine jc_X2_100 F dX2_blowApart_74 (c_X2_endTurn hg ht) (jpG_o hg) (by decide) (Nat.le_refl 0) (Nat.le_refl 0) (Nat.le_of_ble_eq_true rfl) ?_
      exact jG_ret F T (rfl) dX2_blowApart_77
    · intro k hk ih r
      refine jG_iload_n F dX2_blowApart_2 rfl ?_
      refine jG_bipush F (v := nI 16) dX2_blowApart_3 (by decide) ?_
      refine jG_icmp_ge F 72 dX2_blowApart_5 (by decide) (fun q => absurd q (nI_ge hk (by decide))) (fun _ => ?_)
      refine jG_iload_n F dX2_blowApart_8 rfl ?_
      refine jG_iconst F (v := (1 : Int32)) dX2_blowApart_9 (by decide) ?_
      refine jG_iload_n F dX2_blowApart_10 rfl ?_
      refine jG_ishl F dX2_blowApart_11 ?_
      refine jG_iand F dX2_blowApart_12 ?_
      refine jG_if_eq F 66 dX2_blowApart_13 (by decide) (fun q => ?_) (fun q => ?_)
      · refine jG_iinc_2 F (w := nI (k + 1)) dX2_blowApart_66 (jinc k) (by decide) ?_
        refine jG_goto F 2 dX2_blowApart_69 (by decide) ?_
        refine jG_eq rfl rfl ?_ (ih r)
        rw [show jblow pl (xs, ys, cv, ly, cu, cd) se (k + 1) = jblow pl (xs, ys, cv, ly, cu, cd) se k from if_pos q]
      · refine jG_take 3 ?_
        refine jG_aload_n F dX2_blowApart_16 rfl ?_
        refine jg_X2_12 F dX2_blowApart_17 (jpG_o hg) rfl ?_
        refine jg_X2_69 F dX2_blowApart_20 (jpB_o (jhg hg)) rfl ?_
        refine jG_iload_n F dX2_blowApart_23 rfl ?_
        refine jG_iald F dX2_blowApart_24 (jpB_x (jhg hg)) rfl (by omega) (by decide) ?_
        refine jG_aload_n F dX2_blowApart_25 rfl ?_
        refine jG_iconst F (v := (3 : Int32)) dX2_blowApart_26 (by decide) ?_
        refine jc_X2_83 F dX2_blowApart_27 (c_X2_drawOff hg (by decide)) (jpG_o hg) (by decide) (Nat.le_refl 0) (Nat.le_refl 0) (Nat.le_of_ble_eq_true rfl) ?_
        refine jG_iadd F dX2_blowApart_30 ?_
        refine jG_istore_n_3n F dX2_blowApart_31 (by decide) ?_
        refine jG_aload_n F dX2_blowApart_32 rfl ?_
        refine jg_X2_12 F dX2_blowApart_33 (jpG_o hg) rfl ?_
        refine jg_X2_73 F dX2_blowApart_36 (jpB_o (jhg hg)) rfl ?_
        refine jG_iload_n F dX2_blowApart_39 rfl ?_
        refine jG_iald F dX2_blowApart_40 (jpB_y (jhg hg)) rfl (by omega) (by decide) ?_
        refine jG_aload_n F dX2_blowApart_41 rfl ?_
        refine jG_iconst F (v := (3 : Int32)) dX2_blowApart_42 (by decide) ?_
        refine jc_X2_83 F dX2_blowApart_43 (c_X2_drawOff hg (by decide)) (jpG_o hg) (by decide) (Nat.le_refl 0) (Nat.le_refl 0) (Nat.le_of_ble_eq_true rfl) ?_
        refine jG_iadd F dX2_blowApart_46 ?_
        refine jG_istore_4n F dX2_blowApart_47 (by decide) ?_
        refine jG_aload_n F dX2_blowApart_49 rfl ?_
        refine jg_X2_12 F dX2_blowApart_50 (jpG_o hg) rfl ?_
        refine jG_iload_n F dX2_blowApart_53 rfl ?_
        refine jG_iload_n F dX2_blowApart_54 rfl ?_
        refine jc_X2_97 F dX2_blowApart_55 (c_X2_nearestOnMat) (by decide) (Nat.le_refl 0) (Nat.le_refl 0) (Nat.le_of_ble_eq_true rfl) ?_
        refine jG_iload F dX2_blowApart_58 rfl ?_
        refine jc_X2_97 F dX2_blowApart_60 (c_X2_nearestOnMat) (by decide) (Nat.le_refl 0) (Nat.le_refl 0) (Nat.le_of_ble_eq_true rfl) ?_
        refine jc_X2_90 F dX2_blowApart_63 (c_X1_bring (jhg hg) (by omega)) (jpB_o (jhg hg)) (by decide) (Nat.le_refl 0) (Nat.le_refl 0) (Nat.le_of_ble_eq_true rfl) ?_
        refine jG_iinc_2 F (w := nI (k + 1)) dX2_blowApart_66 (jinc k) (by decide) ?_
        refine jG_goto F 2 dX2_blowApart_69 (by decide) ?_
        refine jG_eq rfl rfl ?_ (ih _)
        rw [show jblow pl (xs, ys, cv, ly, cu, cd) se (k + 1) = _ from if_neg q]
  refine jG_iconst F (v := nI 0) dX2_blowApart_0 (by decide) ?_
  refine jG_istore_n_2n F dX2_blowApart_1 (by decide) ?_
  exact loop 0 (by decide) []
end GB
end
section
/-! ===== Adviser ===== -/
abbrev jao (dc am wo : Int32) : va_E := .inr (0, [.int dc, .int am, .int wo])
abbrev jpA (E : jE) (h : List va_E) (a i : Nat) (xs ys cv : Nat → Int32) (ly cu cd dc am wo : Int32) : List va_E := jp6 E (h.set a (jao dc am wo)) i xs ys cv ly cu cd
def jmx1 (v : Int32) : Int32 := if 1 < v then v else 1
def jcup2 (xs ys : Nat → Int32) (d : Nat) : Int32 := jway (xs d) (ys d) 20 20
def jchP (xs ys : Nat → Int32) (d : Nat) : Int32 := jmx1 (36 - jcup2 xs ys d)
def jchD (xs ys : Nat → Int32) (d o : Nat) : Int32 := jmx1 (36 - (if nI d < 8 then 2 * jway (xs d) (ys d) (xs o) (ys o) else jway (xs d) (ys d) (xs o) (ys o)))
def jgaP (ly cu : Int32) (d : Nat) : Int32 := if ¬ jts ly d ∧ ¬ jts cu d then 3 else 2
def jgaD (xs ys cv : Nat → Int32) (d o : Nat) : Int32 := 1 + (if 6 < jcup2 xs ys o then 0 else 1) + jbc (jorI 0 (fun k => decide (jts (cv k) o)) 16 &&& ((21845 : Int32) <<< (nI (d % 2) &&& 31)))
def jwei (d am pr : Int32) (q : Int32 × Int32 × Int32) : Int32 × Int32 × Int32 := if q.2.2 < pr then (d, am, pr) else q
abbrev jodd (v : Int32) : Prop := ¬ v - v / 2 * 2 = 0
/-- weighAims: what stands behind the first k aims -/
def jwA (xs ys cv : Nat → Int32) (ly cu cd : Int32) (d : Nat) (q : Int32 × Int32 × Int32) : Nat → Int32 × Int32 × Int32
  | 0 => jwei (nI d) (-1) (jchP xs ys d * jgaP ly cu d) q
  | k + 1 => if jodd (nI k - nI d) ∧ jts ly k ∧ (cu ||| cd) &&& jbit k = 0 then jwei (nI d) (nI k) (jchD xs ys d k * jgaD xs ys cv d k) (jwA xs ys cv ly cu cd d q k) else jwA xs ys cv ly cu cd d q k
def jwB (xs ys cv : Nat → Int32) (ly cu cd : Int32) (p : Nat) (q : Int32 × Int32 × Int32) : Nat → Int32 × Int32 × Int32
  | 0 => (q.1, q.2.1, 0)
  | k + 1 => if (cu ||| cd) &&& jbit (p + 4 * k) = 0 then jwA xs ys cv ly cu cd (p + 4 * k) (jwB xs ys cv ly cu cd p q k) 16 else jwB xs ys cv ly cu cd p q k
abbrev jpAq (E : jE) (h : List va_E) (a i : Nat) (xs ys cv : Nat → Int32) (ly cu cd : Int32) (q : Int32 × Int32 × Int32) : List va_E := jpA E h a i xs ys cv ly cu cd q.1 q.2.1 q.2.2
section AV0
variable {E : jE} {h : List va_E} {a i : Nat} {xs ys cv : Nat → Int32} {ly cu cd dc am wo v : Int32}
theorem jhA {e : va_E} (hi : i + 3 < h.length) : i + 3 < (h.set a e).length := by rw [List.length_set]; exact hi
theorem jpA_o (ha : a < h.length) (hai : a < i ∨ i + 3 < a) : (jpA E h a i xs ys cv ly cu cd dc am wo)[a]? = some (jao dc am wo) := by
  rw [jpB_ne (by omega) (by omega) (by omega) (by omega)]
  simp [ha]
theorem jpA_put {e : va_E} (hai : a < i ∨ i + 3 < a) : (jpA E h a i xs ys cv ly cu cd dc am wo).set a e = jp6 E (h.set a e) i xs ys cv ly cu cd := by
  rw [jp6_set_ne (by omega) (by omega) (by omega) (by omega), List.set_set]
theorem jpA_len : (jpA E h a i xs ys cv ly cu cd dc am wo).length = h.length := by rw [jpB_len, List.length_set]
theorem jpA_put_disc (hai : a < i ∨ i + 3 < a) : (jpA E h a i xs ys cv ly cu cd dc am wo).set a (.inr (0, [.int dc, .int am, .int wo].set 0 (.int v))) = jpA E h a i xs ys cv ly cu cd v am wo := jpA_put hai
theorem jpA_put_aim (hai : a < i ∨ i + 3 < a) : (jpA E h a i xs ys cv ly cu cd dc am wo).set a (.inr (0, [.int dc, .int am, .int wo].set 1 (.int v))) = jpA E h a i xs ys cv ly cu cd dc v wo := jpA_put hai
theorem jpA_put_worth (hai : a < i ∨ i + 3 < a) : (jpA E h a i xs ys cv ly cu cd dc am wo).set a (.inr (0, [.int dc, .int am, .int wo].set 2 (.int v))) = jpA E h a i xs ys cv ly cu cd dc am v := jpA_put hai
end AV0
section AV
variable {l : Launch} {E : jE} {h : List va_E} {a i d o : Nat} {xs ys cv : Nat → Int32} {ly cu cd dc am wo : Int32}
theorem c_X0_wayToCup (hi : i + 3 < h.length) (hd : d < 16) : jMd l E yX0_wayToCup cX0_wayToCup 2 (some .int) 2 [.ref (E.1 + i), .int (nI d)] (jp6 E h i xs ys cv ly cu cd) (some (.int (jcup2 xs ys d))) (jp6 E h i xs ys cv ly cu cd) 0 0 := by
  refine jMd_of (by decide) (Nat.le_of_ble_eq_true rfl) (by simp [Value.category]) (by first | rfl | simp [jpB_len]) (fun x hx F T hm => ?_)
  refine jG_aload_n F dX0_wayToCup_0 rfl ?_
  refine jg_X0_55 F dX0_wayToCup_1 (jpB_o hi) rfl ?_
  refine jG_iload_n F dX0_wayToCup_4 rfl ?_
  refine jG_iald F dX0_wayToCup_5 (jpB_x hi) rfl (by omega) (by decide) ?_
  refine jG_aload_n F dX0_wayToCup_6 rfl ?_
  refine jg_X0_59 F dX0_wayToCup_7 (jpB_o hi) rfl ?_
  refine jG_iload_n F dX0_wayToCup_10 rfl ?_
  refine jG_iald F dX0_wayToCup_11 (jpB_y hi) rfl (by omega) (by decide) ?_
  refine jG_bipush F (v := (20 : Int32)) dX0_wayToCup_12 (by decide) ?_
  refine jG_bipush F (v := (20 : Int32)) dX0_wayToCup_14 (by decide) ?_
  refine jc_X0_62 F dX0_wayToCup_16 (c_X5_wayBetween) (by decide) (Nat.le_refl 0) (Nat.le_refl 0) (Nat.le_of_ble_eq_true rfl) ?_
  exact jG_iret F T (rfl) rfl (by first | rfl | exact jnarb _ | (split <;> rfl)) dX0_wayToCup_19
theorem c_X0_chanceOfP (hi : i + 3 < h.length) (hd : d < 16) : jMd l E yX0_chanceOf cX0_chanceOf 4 (some .int) 3 [.ref (E.1 + i), .int (nI d), .int (-1)] (jp6 E h i xs ys cv ly cu cd) (some (.int (jchP xs ys d))) (jp6 E h i xs ys cv ly cu cd) 0 0 := by
  refine jMd_of (by decide) (Nat.le_of_ble_eq_true rfl) (by simp [Value.category]) (by first | rfl | simp [jpB_len]) (fun x hx F T hm => ?_)
  refine jG_iload_n F dX0_chanceOf_0 rfl ?_
  refine jG_iconst F (v := (-1 : Int32)) dX0_chanceOf_1 (by decide) ?_
  refine jG_icmp_ne F 18 dX0_chanceOf_2 (by decide) (fun q => absurd q (fun z => z rfl)) (fun _ => ?_)
  refine jG_iconst F (v := (1 : Int32)) dX0_chanceOf_5 (by decide) ?_
  refine jG_bipush F (v := (36 : Int32)) dX0_chanceOf_6 (by decide) ?_
  refine jG_aload_n F dX0_chanceOf_8 rfl ?_
  refine jG_iload_n F dX0_chanceOf_9 rfl ?_
  refine jc_X0_45 F dX0_chanceOf_10 (c_X0_wayToCup hi (by omega)) (by decide) (Nat.le_refl 0) (Nat.le_refl 0) (Nat.le_of_ble_eq_true rfl) ?_
  refine jG_isub F dX0_chanceOf_13 ?_
  refine jc_X0_49 F dX0_chanceOf_14 (by decide) (Nat.le_of_ble_eq_true rfl) ?_
  exact jG_iret F T (rfl) rfl (by first | rfl | exact jnarb _ | (split <;> rfl)) dX0_chanceOf_17
theorem jneg1 {o : Nat} (ho : o < 16) : ¬ nI o = -1 := by
  intro z
  have h1 : (nI o).toInt = o := nI_toInt (by omega)
  rw [z] at h1
  have h2 : (-1 : Int32).toInt = -1 := by decide
  omega
theorem c_X0_chanceOfD (hi : i + 3 < h.length) (hd : d < 16) (ho : o < 16) : jMd l E yX0_chanceOf cX0_chanceOf 4 (some .int) 3 [.ref (E.1 + i), .int (nI d), .int (nI o)] (jp6 E h i xs ys cv ly cu cd) (some (.int (jchD xs ys d o))) (jp6 E h i xs ys cv ly cu cd) 0 0 := by
  refine jMd_of (by decide) (Nat.le_of_ble_eq_true rfl) (by simp [Value.category]) (by first | rfl | simp [jpB_len]) (fun x hx F T hm => ?_)
  refine jG_iload_n F dX0_chanceOf_0 rfl ?_
  refine jG_iconst F (v := (-1 : Int32)) dX0_chanceOf_1 (by decide) ?_
  refine jG_icmp_ne F 18 dX0_chanceOf_2 (by decide) (fun _ => ?_) (fun q => absurd q (jneg1 ho))
  refine jG_aload_n F dX0_chanceOf_18 rfl ?_
  refine jg_X0_55 F dX0_chanceOf_19 (jpB_o hi) rfl ?_
  refine jG_iload_n F dX0_chanceOf_22 rfl ?_
  refine jG_iald F dX0_chanceOf_23 (jpB_x hi) rfl (by omega) (by decide) ?_
  refine jG_aload_n F dX0_chanceOf_24 rfl ?_
  refine jg_X0_59 F dX0_chanceOf_25 (jpB_o hi) rfl ?_
  refine jG_iload_n F dX0_chanceOf_28 rfl ?_
  refine jG_iald F dX0_chanceOf_29 (jpB_y hi) rfl (by omega) (by decide) ?_
  refine jG_aload_n F dX0_chanceOf_30 rfl ?_
  refine jg_X0_55 F dX0_chanceOf_31 (jpB_o hi) rfl ?_
  refine jG_iload_n F dX0_chanceOf_34 rfl ?_
  refine jG_iald F dX0_chanceOf_35 (jpB_x hi) rfl (by omega) (by decide) ?_
  refine jG_aload_n F dX0_chanceOf_36 rfl ?_
  refine jg_X0_59 F dX0_chanceOf_37 (jpB_o hi) rfl ?_
  refine jG_iload_n F dX0_chanceOf_40 rfl ?_
  refine jG_iald F dX0_chanceOf_41 (jpB_y hi) rfl (by omega) (by decide) ?_
  refine jc_X0_62 F dX0_chanceOf_42 (c_X5_wayBetween) (by decide) (Nat.le_refl 0) (Nat.le_refl 0) (Nat.le_of_ble_eq_true rfl) ?_
  refine jG_istore_n_3n F dX0_chanceOf_45 (by decide) ?_
  refine jG_iconst F (v := (1 : Int32)) dX0_chanceOf_46 (by decide) ?_
  refine jG_bipush F (v := (36 : Int32)) dX0_chanceOf_47 (by decide) ?_
  refine jG_iload_n F dX0_chanceOf_49 rfl ?_
  refine jG_bipush F (v := (8 : Int32)) dX0_chanceOf_50 (by decide) ?_
  refine jG_icmp_ge F 61 dX0_chanceOf_52 (by decide) (fun q => ?_) (fun q => ?_)
  · refine jG_iload_n F dX0_chanceOf_61 rfl ?_
    refine jG_isub F dX0_chanceOf_62 ?_
    refine jc_X0_49 F dX0_chanceOf_63 (by decide) (Nat.le_of_ble_eq_true rfl) ?_
    exact jG_iret F T (by rw [jchD, if_neg (Int32.not_lt.mpr q)]; rfl) rfl (by first | rfl | exact jnarb _ | (split <;> rfl)) dX0_chanceOf_66
  · refine jG_iconst F (v := (2 : Int32)) dX0_chanceOf_55 (by decide) ?_
    refine jG_iload_n F dX0_chanceOf_56 rfl ?_
    refine jG_imul F dX0_chanceOf_57 ?_
    refine jG_goto F 62 dX0_chanceOf_58 (by decide) ?_
    refine jG_isub F dX0_chanceOf_62 ?_
    refine jc_X0_49 F dX0_chanceOf_63 (by decide) (Nat.le_of_ble_eq_true rfl) ?_
    exact jG_iret F T (by rw [jchD, if_pos (Int32.not_le.mp q)]; rfl) rfl (by first | rfl | exact jnarb _ | (split <;> rfl)) dX0_chanceOf_66
theorem c_X0_gainOfP (hi : i + 3 < h.length) (hd : d < 16) : jMd l E yX0_gainOf cX0_gainOf 5 (some .int) 3 [.ref (E.1 + i), .int (nI d), .int (-1)] (jp6 E h i xs ys cv ly cu cd) (some (.int (jgaP ly cu d))) (jp6 E h i xs ys cv ly cu cd) 0 0 := by
  refine jMd_of (by decide) (Nat.le_of_ble_eq_true rfl) (by simp [Value.category]) (by first | rfl | simp [jpB_len]) (fun x hx F T hm => ?_)
  refine jG_iload_n F dX0_gainOf_0 rfl ?_
  refine jG_iconst F (v := (-1 : Int32)) dX0_gainOf_1 (by decide) ?_
  refine jG_icmp_ne F 19 dX0_gainOf_2 (by decide) (fun q => absurd q (fun z => z rfl)) (fun _ => ?_)
  refine jG_aload_n F dX0_gainOf_5 rfl ?_
  refine jG_iload_n F dX0_gainOf_6 rfl ?_
  refine jc_X0_66 F dX0_gainOf_7 (c_X1_isAtBase hi) (jpB_o hi) (by decide) (Nat.le_refl 0) (Nat.le_refl 0) (Nat.le_of_ble_eq_true rfl) ?_
  refine jG_if_eq F 17 dX0_gainOf_10 (by decide) (fun q => ?_) (fun q => ?_)
  · have q := jB01_eq q
    refine jG_iconst F (v := (2 : Int32)) dX0_gainOf_17 (by decide) ?_
    exact jG_iret F T ((if_neg q).symm) rfl (by first | rfl | exact jnarb _ | (split <;> rfl)) dX0_gainOf_18
  · have q := jB01_ne q
    refine jG_iconst F (v := (3 : Int32)) dX0_gainOf_13 (by decide) ?_
    refine jG_goto F 18 dX0_gainOf_14 (by decide) ?_
    exact jG_iret F T ((if_pos q).symm) rfl (by first | rfl | exact jnarb _ | (split <;> rfl)) dX0_gainOf_18
theorem c_X0_gainOfD (hi : i + 3 < h.length) (hd : d < 16) (ho : o < 16) : jMd l E yX0_gainOf cX0_gainOf 5 (some .int) 3 [.ref (E.1 + i), .int (nI d), .int (nI o)] (jp6 E h i xs ys cv ly cu cd) (some (.int (jgaD xs ys cv d o))) (jp6 E h i xs ys cv ly cu cd) 0 0 := by
  refine jMd_of (by decide) (Nat.le_of_ble_eq_true rfl) (by simp [Value.category]) (by first | rfl | simp [jpB_len]) (fun x hx F T hm => ?_)
  refine jG_iload_n F dX0_gainOf_0 rfl ?_
  refine jG_iconst F (v := (-1 : Int32)) dX0_gainOf_1 (by decide) ?_
  refine jG_icmp_ne F 19 dX0_gainOf_2 (by decide) (fun _ => ?_) (fun q => absurd q (jneg1 ho))
  refine jG_aload_n F dX0_gainOf_19 rfl ?_
  refine jG_iload_n F dX0_gainOf_20 rfl ?_
  refine jc_X0_45 F dX0_gainOf_21 (c_X0_wayToCup hi (by omega)) (by decide) (Nat.le_refl 0) (Nat.le_refl 0) (Nat.le_of_ble_eq_true rfl) ?_
  refine jG_bipush F (v := (6 : Int32)) dX0_gainOf_24 (by decide) ?_
  have e : nI d - nI d / nI 2 * nI 2 = nI (d % 2) := pk_rem (by omega) (by decide) (by decide)
  refine jG_icmp_gt F 33 dX0_gainOf_26 (by decide) (fun q => ?_) (fun q => ?_)
  · refine jG_iconst F (v := (0 : Int32)) dX0_gainOf_33 (by decide) ?_
    refine jG_istore_n_3n F dX0_gainOf_34 (by decide) ?_
    refine jG_sipush F (v := (21845 : Int32)) dX0_gainOf_35 (by decide) ?_
    refine jG_iload_n F dX0_gainOf_38 rfl ?_
    refine jG_iconst F (v := nI 2) dX0_gainOf_39 (by decide) ?_
    refine jG_irem F dX0_gainOf_40 (by decide) ?_
    refine jG_ishl F dX0_gainOf_41 ?_
    refine jG_istore_4n F dX0_gainOf_42 (by decide) ?_
    refine jG_iconst F (v := (1 : Int32)) dX0_gainOf_44 (by decide) ?_
    refine jG_iload_n F dX0_gainOf_45 rfl ?_
    refine jG_iadd F dX0_gainOf_46 ?_
    refine jG_aload_n F dX0_gainOf_47 rfl ?_
    refine jG_iload_n F dX0_gainOf_48 rfl ?_
    refine jc_X0_69 F dX0_gainOf_49 (c_X1_coveredBy hi) (jpB_o hi) (by decide) (Nat.le_refl 0) (Nat.le_refl 0) (Nat.le_of_ble_eq_true rfl) ?_
    refine jG_iload F dX0_gainOf_52 rfl ?_
    refine jG_iand F dX0_gainOf_54 ?_
    refine jc_X0_73 F dX0_gainOf_55 (c_J6_bitCount_0f7a4) (by decide) (Nat.le_refl 0) (Nat.le_refl 0) (Nat.le_of_ble_eq_true rfl) ?_
    refine jG_iadd F dX0_gainOf_58 ?_
    exact jG_iret F T (by rw [jgaD, if_pos q, e]) rfl (by first | rfl | exact jnarb _ | (split <;> rfl)) dX0_gainOf_59
  · refine jG_iconst F (v := (1 : Int32)) dX0_gainOf_29 (by decide) ?_
    refine jG_goto F 34 dX0_gainOf_30 (by decide) ?_
    refine jG_istore_n_3n F dX0_gainOf_34 (by decide) ?_
    refine jG_sipush F (v := (21845 : Int32)) dX0_gainOf_35 (by decide) ?_
    refine jG_iload_n F dX0_gainOf_38 rfl ?_
    refine jG_iconst F (v := nI 2) dX0_gainOf_39 (by decide) ?_
    refine jG_irem F dX0_gainOf_40 (by decide) ?_
    refine jG_ishl F dX0_gainOf_41 ?_
    refine jG_istore_4n F dX0_gainOf_42 (by decide) ?_
    refine jG_iconst F (v := (1 : Int32)) dX0_gainOf_44 (by decide) ?_
    refine jG_iload_n F dX0_gainOf_45 rfl ?_
    refine jG_iadd F dX0_gainOf_46 ?_
    refine jG_aload_n F dX0_gainOf_47 rfl ?_
    refine jG_iload_n F dX0_gainOf_48 rfl ?_
    refine jc_X0_69 F dX0_gainOf_49 (c_X1_coveredBy hi) (jpB_o hi) (by decide) (Nat.le_refl 0) (Nat.le_refl 0) (Nat.le_of_ble_eq_true rfl) ?_
    refine jG_iload F dX0_gainOf_52 rfl ?_
    refine jG_iand F dX0_gainOf_54 ?_
    refine jc_X0_73 F dX0_gainOf_55 (c_J6_bitCount_0f7a4) (by decide) (Nat.le_refl 0) (Nat.le_refl 0) (Nat.le_of_ble_eq_true rfl) ?_
    refine jG_iadd F dX0_gainOf_58 ?_
    exact jG_iret F T (by rw [jgaD, if_neg q, e]) rfl (by first | rfl | exact jnarb _ | (split <;> rfl)) dX0_gainOf_59
theorem c_X0_weighP (ha : a < h.length) (hi : i + 3 < h.length) (hai : a < i ∨ i + 3 < a) (hd : d < 16) : jMd l E yX0_weigh cX0_weigh 5 none 4 [.ref (E.1 + a), .ref (E.1 + i), .int (nI d), .int (-1)] (jpA E h a i xs ys cv ly cu cd dc am wo) none (jpAq E h a i xs ys cv ly cu cd (jwei (nI d) (-1) (jchP xs ys d * jgaP ly cu d) (dc, am, wo))) 0 0 := by
  refine jMd_of (by decide) (Nat.le_of_ble_eq_true rfl) (by simp [Value.category]) (by first | rfl | simp [jpA_len, jpB_len]) (fun x hx F T hm => ?_)
  refine jG_aload_n F dX0_weigh_0 rfl ?_
  refine jG_iload_n F dX0_weigh_1 rfl ?_
  refine jG_iload_n F dX0_weigh_2 rfl ?_
  refine jc_X0_38 F dX0_weigh_3 (c_X0_chanceOfP (jhA hi) hd) (by decide) (Nat.le_refl 0) (Nat.le_refl 0) (Nat.le_of_ble_eq_true rfl) ?_
  refine jG_aload_n F dX0_weigh_6 rfl ?_
  refine jG_iload_n F dX0_weigh_7 rfl ?_
  refine jG_iload_n F dX0_weigh_8 rfl ?_
  refine jc_X0_42 F dX0_weigh_9 (c_X0_gainOfP (jhA hi) hd) (by decide) (Nat.le_refl 0) (Nat.le_refl 0) (Nat.le_of_ble_eq_true rfl) ?_
  refine jG_imul F dX0_weigh_12 ?_
  refine jG_istore_4n F dX0_weigh_13 (by decide) ?_
  refine jG_iload F dX0_weigh_15 rfl ?_
  refine jG_aload_n F dX0_weigh_17 rfl ?_
  refine jg_X0_18 F dX0_weigh_18 (jpA_o ha hai) rfl ?_
  refine jG_icmp_le F 40 dX0_weigh_21 (by decide) (fun q => ?_) (fun q => ?_)
  · rw [show jwei (nI d) (-1) (jchP xs ys d * jgaP ly cu d) (dc, am, wo) = (dc, am, wo) from if_neg (Int32.not_lt.mpr q)] at T
    exact jG_ret F T (rfl) dX0_weigh_40
  · rw [show jwei (nI d) (-1) (jchP xs ys d * jgaP ly cu d) (dc, am, wo) = (nI d, -1, jchP xs ys d * jgaP ly cu d) from if_pos (Int32.not_le.mp q)] at T
    refine jG_aload_n F dX0_weigh_24 rfl ?_
    refine jG_iload_n F dX0_weigh_25 rfl ?_
    refine jp_X0_9 F dX0_weigh_26 (jpA_o ha hai) rfl rfl (Nat.le_of_ble_eq_true rfl) ?_
    refine jG_eq rfl rfl (jpA_put_disc hai) ?_
    refine jG_aload_n F dX0_weigh_29 rfl ?_
    refine jG_iload_n F dX0_weigh_30 rfl ?_
    refine jp_X0_15 F dX0_weigh_31 (jpA_o ha hai) rfl rfl (Nat.le_of_ble_eq_true rfl) ?_
    refine jG_eq rfl rfl (jpA_put_aim hai) ?_
    refine jG_aload_n F dX0_weigh_34 rfl ?_
    refine jG_iload F dX0_weigh_35 rfl ?_
    refine jp_X0_18 F dX0_weigh_37 (jpA_o ha hai) rfl rfl (Nat.le_of_ble_eq_true rfl) ?_
    refine jG_eq rfl rfl (jpA_put_worth hai) ?_
    exact jG_ret F T (rfl) dX0_weigh_40
theorem c_X0_weighD (ha : a < h.length) (hi : i + 3 < h.length) (hai : a < i ∨ i + 3 < a) (hd : d < 16) (ho : o < 16) : jMd l E yX0_weigh cX0_weigh 5 none 4 [.ref (E.1 + a), .ref (E.1 + i), .int (nI d), .int (nI o)] (jpA E h a i xs ys cv ly cu cd dc am wo) none (jpAq E h a i xs ys cv ly cu cd (jwei (nI d) (nI o) (jchD xs ys d o * jgaD xs ys cv d o) (dc, am, wo))) 0 0 := by
  refine jMd_of (by decide) (Nat.le_of_ble_eq_true rfl) (by simp [Value.category]) (by first | rfl | simp [jpA_len, jpB_len]) (fun x hx F T hm => ?_)
  refine jG_aload_n F dX0_weigh_0 rfl ?_
  refine jG_iload_n F dX0_weigh_1 rfl ?_
  refine jG_iload_n F dX0_weigh_2 rfl ?_
  refine jc_X0_38 F dX0_weigh_3 (c_X0_chanceOfD (jhA hi) hd ho) (by decide) (Nat.le_refl 0) (Nat.le_refl 0) (Nat.le_of_ble_eq_true rfl) ?_
  refine jG_aload_n F dX0_weigh_6 rfl ?_
  refine jG_iload_n F dX0_weigh_7 rfl ?_
  refine jG_iload_n F dX0_weigh_8 rfl ?_
  refine jc_X0_42 F dX0_weigh_9 (c_X0_gainOfD (jhA hi) hd ho) (by decide) (Nat.le_refl 0) (Nat.le_refl 0) (Nat.le_of_ble_eq_true rfl) ?_
  refine jG_imul F dX0_weigh_12 ?_
  refine jG_istore_4n F dX0_weigh_13 (by decide) ?_
  refine jG_iload F dX0_weigh_15 rfl ?_
  refine jG_aload_n F dX0_weigh_17 rfl ?_
  refine jg_X0_18 F dX0_weigh_18 (jpA_o ha hai) rfl ?_
  refine jG_icmp_le F 40 dX0_weigh_21 (by decide) (fun q => ?_) (fun q => ?_)
  · rw [show jwei (nI d) (nI o) (jchD xs ys d o * jgaD xs ys cv d o) (dc, am, wo) = (dc, am, wo) from if_neg (Int32.not_lt.mpr q)] at T
    exact jG_ret F T (rfl) dX0_weigh_40
  · rw [show jwei (nI d) (nI o) (jchD xs ys d o * jgaD xs ys cv d o) (dc, am, wo) = (nI d, nI o, jchD xs ys d o * jgaD xs ys cv d o) from if_pos (Int32.not_le.mp q)] at T
    refine jG_aload_n F dX0_weigh_24 rfl ?_
    refine jG_iload_n F dX0_weigh_25 rfl ?_
    refine jp_X0_9 F dX0_weigh_26 (jpA_o ha hai) rfl rfl (Nat.le_of_ble_eq_true rfl) ?_
    refine jG_eq rfl rfl (jpA_put_disc hai) ?_
    refine jG_aload_n F dX0_weigh_29 rfl ?_
    refine jG_iload_n F dX0_weigh_30 rfl ?_
    refine jp_X0_15 F dX0_weigh_31 (jpA_o ha hai) rfl rfl (Nat.le_of_ble_eq_true rfl) ?_
    refine jG_eq rfl rfl (jpA_put_aim hai) ?_
    refine jG_aload_n F dX0_weigh_34 rfl ?_
    refine jG_iload F dX0_weigh_35 rfl ?_
    refine jp_X0_18 F dX0_weigh_37 (jpA_o ha hai) rfl rfl (Nat.le_of_ble_eq_true rfl) ?_
    refine jG_eq rfl rfl (jpA_put_worth hai) ?_
    exact jG_ret F T (rfl) dX0_weigh_40
theorem c_X0_weighAims (ha : a < h.length) (hi : i + 3 < h.length) (hai : a < i ∨ i + 3 < a) (hd : d < 16) : jMd l E yX0_weighAims cX0_weighAims 5 none 5 [.ref (E.1 + a), .ref (E.1 + i), .int (nI d)] (jpA E h a i xs ys cv ly cu cd dc am wo) none (jpAq E h a i xs ys cv ly cu cd (jwA xs ys cv ly cu cd d (dc, am, wo) 16)) 0 0 := by
  refine jMd_of (by decide) (Nat.le_of_ble_eq_true rfl) (by simp [Value.category]) (by first | rfl | simp [jpA_len, jpB_len]) (fun x hx F T hm => ?_)
  have loop : ∀ k, k ≤ 16 → ∀ r : List Value, jG E x 0 0 9 (.ref (E.1 + a) :: .ref (E.1 + i) :: .int (nI d) :: .int (nI k) :: r) [] (jpAq E h a i xs ys cv ly cu cd (jwA xs ys cv ly cu cd d (dc, am, wo) k)) := by
    refine jup 16 _ ?_ ?_
    · intro r
      refine jG_iload_n F dX0_weighAims_9 rfl ?_
      refine jG_bipush F (v := nI 16) dX0_weighAims_10 (by decide) ?_
      refine jG_icmp_ge F 64 dX0_weighAims_12 (by decide) (fun _ => ?_) (fun q => absurd (nI_le (Nat.le_refl 16) (by decide)) q)
      exact jG_ret F T (rfl) dX0_weighAims_64
    · intro k hk ih r
      refine jG_take 4 ?_
      refine jG_iload_n F dX0_weighAims_9 rfl ?_
      refine jG_bipush F (v := nI 16) dX0_weighAims_10 (by decide) ?_
      refine jG_icmp_ge F 64 dX0_weighAims_12 (by decide) (fun q => absurd q (nI_ge hk (by decide))) (fun _ => ?_)
      refine jG_iload_n F dX0_weighAims_15 rfl ?_
      refine jG_iload_n F dX0_weighAims_16 rfl ?_
      refine jG_isub F dX0_weighAims_17 ?_
      refine jG_iconst F (v := (2 : Int32)) dX0_weighAims_18 (by decide) ?_
      refine jG_irem F dX0_weighAims_19 (by decide) ?_
      refine jG_if_eq F 27 dX0_weighAims_20 (by decide) (fun q => ?_) (fun q => ?_)
      · refine jG_iconst F (v := (0 : Int32)) dX0_weighAims_27 (by decide) ?_
        refine jG_istore_4n F dX0_weighAims_28 (by decide) ?_
        refine jG_iload F dX0_weighAims_30 rfl ?_
        refine jG_if_eq F 58 dX0_weighAims_32 (by decide) (fun _ => ?_) (fun q => absurd rfl q)
        refine jG_iinc_3 F (w := nI (k + 1)) dX0_weighAims_58 (jinc k) (by decide) ?_
        refine jG_goto F 9 dX0_weighAims_61 (by decide) ?_
        refine jG_eq rfl rfl ?_ (ih _)
        rw [show jwA xs ys cv ly cu cd d (dc, am, wo) (k + 1) = jwA xs ys cv ly cu cd d (dc, am, wo) k from if_neg (fun z => z.1 q)]
      · refine jG_iconst F (v := (1 : Int32)) dX0_weighAims_23 (by decide) ?_
        refine jG_goto F 28 dX0_weighAims_24 (by decide) ?_
        refine jG_istore_4n F dX0_weighAims_28 (by decide) ?_
        refine jG_iload F dX0_weighAims_30 rfl ?_
        refine jG_if_eq F 58 dX0_weighAims_32 (by decide) (fun q => absurd q (by decide)) (fun _ => ?_)
        refine jG_aload_n F dX0_weighAims_35 rfl ?_
        refine jG_iload_n F dX0_weighAims_36 rfl ?_
        refine jc_X0_35 F dX0_weighAims_37 (c_X1_doesLie (jhA hi)) (jpB_o (jhA hi)) (by decide) (Nat.le_refl 0) (Nat.le_refl 0) (Nat.le_of_ble_eq_true rfl) ?_
        refine jG_if_eq F 58 dX0_weighAims_40 (by decide) (fun q2 => ?_) (fun q2 => ?_)
        · have q2 := jB01_eq q2
          refine jG_iinc_3 F (w := nI (k + 1)) dX0_weighAims_58 (jinc k) (by decide) ?_
          refine jG_goto F 9 dX0_weighAims_61 (by decide) ?_
          refine jG_eq rfl rfl ?_ (ih _)
          rw [show jwA xs ys cv ly cu cd d (dc, am, wo) (k + 1) = jwA xs ys cv ly cu cd d (dc, am, wo) k from if_neg (fun z => q2 z.2.1)]
        · have q2 := jB01_ne q2
          refine jG_aload_n F dX0_weighAims_43 rfl ?_
          refine jG_iload_n F dX0_weighAims_44 rfl ?_
          refine jc_X0_21 F dX0_weighAims_45 (c_X1_isFree (jhA hi)) (jpB_o (jhA hi)) (by decide) (Nat.le_refl 0) (Nat.le_refl 0) (Nat.le_of_ble_eq_true rfl) ?_
          refine jG_if_eq F 58 dX0_weighAims_48 (by decide) (fun q3 => ?_) (fun q3 => ?_)
          · have q3 := jB01_eq q3
            refine jG_iinc_3 F (w := nI (k + 1)) dX0_weighAims_58 (jinc k) (by decide) ?_
            refine jG_goto F 9 dX0_weighAims_61 (by decide) ?_
            refine jG_eq rfl rfl ?_ (ih _)
            rw [show jwA xs ys cv ly cu cd d (dc, am, wo) (k + 1) = jwA xs ys cv ly cu cd d (dc, am, wo) k from if_neg (fun z => q3 z.2.2)]
          · have q3 := jB01_ne q3
            refine jG_aload_n F dX0_weighAims_51 rfl ?_
            refine jG_aload_n F dX0_weighAims_52 rfl ?_
            refine jG_iload_n F dX0_weighAims_53 rfl ?_
            refine jG_iload_n F dX0_weighAims_54 rfl ?_
            refine jc_X0_31 F dX0_weighAims_55 (c_X0_weighD ha hi hai hd hk) (jpA_o ha hai) (by decide) (Nat.le_refl 0) (Nat.le_refl 0) (Nat.le_of_ble_eq_true rfl) ?_
            refine jG_iinc_3 F (w := nI (k + 1)) dX0_weighAims_58 (jinc k) (by decide) ?_
            refine jG_goto F 9 dX0_weighAims_61 (by decide) ?_
            refine jG_eq rfl rfl ?_ (ih _)
            rw [show jwA xs ys cv ly cu cd d (dc, am, wo) (k + 1) = _ from if_pos ⟨q, q2, q3⟩]
  refine jG_aload_n F dX0_weighAims_0 rfl ?_
  refine jG_aload_n F dX0_weighAims_1 rfl ?_
  refine jG_iload_n F dX0_weighAims_2 rfl ?_
  refine jG_iconst F (v := (-1 : Int32)) dX0_weighAims_3 (by decide) ?_
  refine jc_X0_31 F dX0_weighAims_4 (c_X0_weighP ha hi hai hd) (jpA_o ha hai) (by decide) (Nat.le_refl 0) (Nat.le_refl 0) (Nat.le_of_ble_eq_true rfl) ?_
  refine jG_iconst F (v := nI 0) dX0_weighAims_7 (by decide) ?_
  refine jG_istore_n_3n F dX0_weighAims_8 (by decide) ?_
  exact loop 0 (by decide) []
theorem c_X0_worthOfBest {p : Nat} (ha : a < h.length) (hi : i + 3 < h.length) (hai : a < i ∨ i + 3 < a) (hp : p < 4) : jMd l E yX0_worthOfBest cX0_worthOfBest 5 (some .int) 6 [.ref (E.1 + a), .ref (E.1 + i), .int (nI p)] (jpA E h a i xs ys cv ly cu cd dc am wo) (some (.int (jwB xs ys cv ly cu cd p (dc, am, wo) 4).2.2)) (jpAq E h a i xs ys cv ly cu cd (jwB xs ys cv ly cu cd p (dc, am, wo) 4)) 0 0 := by
  refine jMd_of (by decide) (Nat.le_of_ble_eq_true rfl) (by simp [Value.category]) (by first | rfl | simp [jpA_len, jpB_len]) (fun x hx F T hm => ?_)
  have loop : ∀ k, k ≤ 4 → ∀ r : List Value, jG E x 0 0 7 (.ref (E.1 + a) :: .ref (E.1 + i) :: .int (nI p) :: .int (nI k) :: r) [] (jpAq E h a i xs ys cv ly cu cd (jwB xs ys cv ly cu cd p (dc, am, wo) k)) := by
    refine jup 4 _ ?_ ?_
    · intro r
      refine jG_iload_n F dX0_worthOfBest_7 rfl ?_
      refine jG_iconst F (v := nI 4) dX0_worthOfBest_8 (by decide) ?_
      refine jG_icmp_ge F 41 dX0_worthOfBest_9 (by decide) (fun _ => ?_) (fun q => absurd (nI_le (Nat.le_refl 4) (by decide)) q)
      refine jG_aload_n F dX0_worthOfBest_41 rfl ?_
      refine jg_X0_18 F dX0_worthOfBest_42 (jpA_o ha hai) rfl ?_
      exact jG_iret F T (rfl) rfl (by first | rfl | exact jnarb _ | (split <;> rfl)) dX0_worthOfBest_45
    · intro k hk ih r
      refine jG_take 4 ?_
      refine jG_iload_n F dX0_worthOfBest_7 rfl ?_
      refine jG_iconst F (v := nI 4) dX0_worthOfBest_8 (by decide) ?_
      refine jG_icmp_ge F 41 dX0_worthOfBest_9 (by decide) (fun q => absurd q (nI_ge hk (by decide))) (fun _ => ?_)
      refine jG_iload_n F dX0_worthOfBest_12 rfl ?_
      refine jG_iconst F (v := nI 4) dX0_worthOfBest_13 (by decide) ?_
      refine jG_iload_n F dX0_worthOfBest_14 rfl ?_
      refine jG_imul F dX0_worthOfBest_15 ?_
      refine jG_iadd F dX0_worthOfBest_16 ?_
      refine jG_istore_4n F dX0_worthOfBest_17 (by decide) ?_
      refine jG_eq (lv2 := [.ref (E.1 + a), .ref (E.1 + i), .int (nI p), .int (nI k), .int (nI (p + 4 * k))]) (by rw [← nI_add, ← pk_mul]) rfl rfl ?_
      refine jG_aload_n F dX0_worthOfBest_19 rfl ?_
      refine jG_iload F dX0_worthOfBest_20 rfl ?_
      refine jc_X0_21 F dX0_worthOfBest_22 (c_X1_isFree (jhA hi)) (jpB_o (jhA hi)) (by decide) (Nat.le_refl 0) (Nat.le_refl 0) (Nat.le_of_ble_eq_true rfl) ?_
      refine jG_if_eq F 35 dX0_worthOfBest_25 (by decide) (fun q => ?_) (fun q => ?_)
      · have q := jB01_eq q
        refine jG_iinc_3 F (w := nI (k + 1)) dX0_worthOfBest_35 (jinc k) (by decide) ?_
        refine jG_goto F 7 dX0_worthOfBest_38 (by decide) ?_
        refine jG_eq rfl rfl ?_ (ih _)
        rw [show jwB xs ys cv ly cu cd p (dc, am, wo) (k + 1) = jwB xs ys cv ly cu cd p (dc, am, wo) k from if_neg q]
      · have q := jB01_ne q
        refine jG_aload_n F dX0_worthOfBest_28 rfl ?_
        refine jG_aload_n F dX0_worthOfBest_29 rfl ?_
        refine jG_iload F dX0_worthOfBest_30 rfl ?_
        refine jc_X0_27 F dX0_worthOfBest_32 (c_X0_weighAims ha hi hai (show p + 4 * k < 16 by omega)) (jpA_o ha hai) (by decide) (Nat.le_refl 0) (Nat.le_refl 0) (Nat.le_of_ble_eq_true rfl) ?_
        refine jG_iinc_3 F (w := nI (k + 1)) dX0_worthOfBest_35 (jinc k) (by decide) ?_
        refine jG_goto F 7 dX0_worthOfBest_38 (by decide) ?_
        refine jG_eq rfl rfl ?_ (ih _)
        rw [show jwB xs ys cv ly cu cd p (dc, am, wo) (k + 1) = _ from if_pos q]
  refine jG_aload_n F dX0_worthOfBest_0 rfl ?_
  refine jG_iconst F (v := (0 : Int32)) dX0_worthOfBest_1 (by decide) ?_
  refine jp_X0_18 F dX0_worthOfBest_2 (jpA_o ha hai) rfl rfl (Nat.le_of_ble_eq_true rfl) ?_
  refine jG_eq rfl rfl (jpA_put_worth hai) ?_
  refine jG_iconst F (v := nI 0) dX0_worthOfBest_5 (by decide) ?_
  refine jG_istore_n_3n F dX0_worthOfBest_6 (by decide) ?_
  exact loop 0 (by decide) []
end AV
end
section
/-! ===== Scatter ===== -/
abbrev jso (E : jE) (s : Nat) : va_E := .inr (4, [.ref (E.1 + (s + 1)), .ref (E.1 + (s + 2)), .ref (E.1 + (s + 3))])
def jpS (E : jE) (h : List va_E) (s : Nat) (hm os op : Nat → Int32) : List va_E := ((h.set (s + 1) (jar E 20 hm)).set (s + 2) (jar E 20 os)).set (s + 3) (jar E 4 op)
section SC0
variable {E : jE} {h : List va_E} {s : Nat} {hm os op f : Nat → Int32}
theorem jpS_len : (jpS E h s hm os op).length = h.length := by simp [jpS]
theorem jpS_o (hs : s + 3 < h.length) (ho : h[s]? = some (jso E s)) : (jpS E h s hm os op)[s]? = some (jso E s) := by
  simp only [jpS, List.getElem?_set, List.length_set]
  simp [ho]
theorem jpS_1 (hs : s + 3 < h.length) : (jpS E h s hm os op)[s + 1]? = some (jar E 20 hm) := by
  simp [jpS, List.getElem?_set, show s + 1 < h.length by omega]
theorem jpS_2 (hs : s + 3 < h.length) : (jpS E h s hm os op)[s + 2]? = some (jar E 20 os) := by
  simp [jpS, List.getElem?_set, show s + 2 < h.length by omega]
theorem jpS_3 (hs : s + 3 < h.length) : (jpS E h s hm os op)[s + 3]? = some (jar E 4 op) := by
  simp [jpS, List.getElem?_set, hs]
theorem jpS_st1 : (jpS E h s hm os op).set (s + 1) (jar E 20 f) = jpS E h s f os op := by
  apply jset_ext; intro j
  simp only [jpS, List.getElem?_set, List.length_set]
  by_cases e : s + 1 = j
  · subst e; simp
  · simp [e]
theorem jpS_st2 : (jpS E h s hm os op).set (s + 2) (jar E 20 f) = jpS E h s hm f op := by
  apply jset_ext; intro j
  simp only [jpS, List.getElem?_set, List.length_set]
  by_cases e : s + 2 = j
  · subst e; simp
  · simp [e]
theorem jpS_st3 : (jpS E h s hm os op).set (s + 3) (jar E 4 f) = jpS E h s hm os f := by
  apply jset_ext; intro j
  simp only [jpS, List.getElem?_set, List.length_set]
  by_cases e : s + 3 = j
  · subst e; simp
  · simp [e]
end SC0
/-- Euclid: at most n steps -/
def jgcd : Nat → Int32 → Int32 → Int32
  | 0, a, _ => a
  | n + 1, a, b => if b = 0 then a else jgcd n b (a - a / b * b)
section SC
variable {l : Launch} {E : jE} {h : List va_E} {s p k : Nat} {hm os op : Nat → Int32}
theorem c_X4_commonDivisor {a b : Int32} : jMd l E yX4_commonDivisor cX4_commonDivisor 6 (some .int) 0 [.int a, .int b] h (some (.int (jgcd 100 a b))) h 0 0 := by
  refine jMd_of (by decide) (Nat.le_of_ble_eq_true rfl) (by simp [Value.category]) (by first | rfl | simp [jpB_len]) (fun x hx F T hm => ?_)
  have loop : ∀ n, n ≤ 100 → ∀ (u v : Int32) (r : List Value), jgcd n u v = jgcd 100 a b → jG E x 0 0 7 (.int a :: .int b :: .int u :: .int v :: .int (nI (100 - n)) :: r) [] h := by
    intro n
    induction n with
    | zero =>
      intro _ u v r h1
      refine jG_iload F dX4_commonDivisor_7 rfl ?_
      refine jG_bipush F (v := nI 100) dX4_commonDivisor_9 (by decide) ?_
      refine jG_icmp_ge F 34 dX4_commonDivisor_11 (by decide) (fun _ => ?_) (fun q => absurd (nI_le (Nat.le_refl 100) (by decide)) q)
      refine jG_iload_n F dX4_commonDivisor_34 rfl ?_
      exact jG_iret F T (h1) rfl (by first | rfl | exact jnarb _ | (split <;> rfl)) dX4_commonDivisor_35
    | succ n ih =>
      intro hn u v r h1
      refine jG_take 5 ?_
      refine jG_iload F dX4_commonDivisor_7 rfl ?_
      refine jG_bipush F (v := nI 100) dX4_commonDivisor_9 (by decide) ?_
      refine jG_icmp_ge F 34 dX4_commonDivisor_11 (by decide) (fun q => absurd q (nI_ge (show 100 - (n + 1) < 100 by omega) (by decide))) (fun _ => ?_)
      refine jG_iload_n F dX4_commonDivisor_14 rfl ?_
      refine jG_if_eq F 34 dX4_commonDivisor_15 (by decide) (fun q => ?_) (fun q => ?_)
      · refine jG_iload_n F dX4_commonDivisor_34 rfl ?_
        exact jG_iret F T ((if_pos q).symm.trans h1) rfl (by first | rfl | exact jnarb _ | (split <;> rfl)) dX4_commonDivisor_35
      · refine jG_iload_n F dX4_commonDivisor_18 rfl ?_
        refine jG_iload_n F dX4_commonDivisor_19 rfl ?_
        refine jG_irem F dX4_commonDivisor_20 q ?_
        refine jG_istore_5n F dX4_commonDivisor_21 (by decide) ?_
        refine jG_iload_n F dX4_commonDivisor_23 rfl ?_
        refine jG_istore_n_2e F dX4_commonDivisor_24 (by decide) ?_
        refine jG_iload F dX4_commonDivisor_25 rfl ?_
        refine jG_istore_n_3e F dX4_commonDivisor_27 (by decide) ?_
        refine jG_iinc_4 F (w := nI (100 - n)) dX4_commonDivisor_28 ((jinc (100 - (n + 1))).trans (by rw [show 100 - (n + 1) + 1 = 100 - n by omega])) (by decide) ?_
        refine jG_goto F 7 dX4_commonDivisor_31 (by decide) ?_
        exact ih (by omega) _ _ _ (by rw [← h1]; exact (if_neg q).symm)
  refine jG_iload_n F dX4_commonDivisor_0 rfl ?_
  refine jG_istore_n_2n F dX4_commonDivisor_1 (by decide) ?_
  refine jG_iload_n F dX4_commonDivisor_2 rfl ?_
  refine jG_istore_n_3n F dX4_commonDivisor_3 (by decide) ?_
  refine jG_iconst F (v := nI 0) dX4_commonDivisor_4 (by decide) ?_
  refine jG_istore_4n F dX4_commonDivisor_5 (by decide) ?_
  exact loop 100 (by omega) a b [] rfl
theorem c_X4_add {w of : Int32} (hs : s + 3 < h.length) (ho : h[s]? = some (jso E s)) (hp : p < 4) (hk : k < 5) (hkk : (if w / 8 < 4 then w / 8 else 4) = nI k) : jMd l E yX4_add cX4_add 5 (some .int) 1 [.ref (E.1 + s), .int (nI p), .int w, .int of] (jpS E h s hm os op) (some (.int (if op p < 1000 then op p + 1 else -3))) (if op p < 1000 then jpS E h s (upd hm (p * 5 + k) (hm (p * 5 + k) + 1)) (upd os (p * 5 + k) (os (p * 5 + k) + of)) (upd op p (op p + 1)) else jpS E h s hm os op) 0 0 := by
  refine jMd_of (by decide) (Nat.le_of_ble_eq_true rfl) (by simp [Value.category]) (by (repeat' split) <;> simp [jpS_len]) (fun x hx F T hmm => ?_)
  have e : nI p * 5 + nI k = nI (p * 5 + k) := by rw [← nI_add, ← pk_mul]; rfl
  refine jG_aload_n F dX4_add_0 rfl ?_
  refine jg_X4_18 F dX4_add_1 (jpS_o hs ho) rfl ?_
  refine jG_iload_n F dX4_add_4 rfl ?_
  refine jG_iald F dX4_add_5 (jpS_3 hs) rfl (by omega) (by decide) ?_
  refine jG_sipush F (v := (1000 : Int32)) dX4_add_6 (by decide) ?_
  refine jG_icmp_lt F 15 dX4_add_9 (by decide) (fun q => ?_) (fun q => ?_)
  · rw [if_pos q, if_pos q] at T
    refine jG_iconst F (v := (4 : Int32)) dX4_add_15 (by decide) ?_
    refine jG_iload_n F dX4_add_16 rfl ?_
    refine jG_bipush F (v := (8 : Int32)) dX4_add_17 (by decide) ?_
    refine jG_idiv F dX4_add_19 (by decide) ?_
    refine jc_X4_21 F dX4_add_20 (by decide) (Nat.le_of_ble_eq_true rfl) ?_
    refine jG_istore_4n F dX4_add_23 (by decide) ?_
    refine jG_eq (lv2 := [.ref (E.1 + s), .int (nI p), .int w, .int of, .int (nI k)]) (by rw [← hkk]) rfl rfl ?_
    refine jG_aload_n F dX4_add_25 rfl ?_
    refine jg_X4_9 F dX4_add_26 (jpS_o hs ho) rfl ?_
    refine jG_iload_n F dX4_add_29 rfl ?_
    refine jG_iconst F (v := (5 : Int32)) dX4_add_30 (by decide) ?_
    refine jG_imul F dX4_add_31 ?_
    refine jG_iload F dX4_add_32 rfl ?_
    refine jG_iadd F dX4_add_34 ?_
    refine jG_dup2 F dX4_add_35 rfl rfl ?_
    refine jG_iald F dX4_add_36 (jpS_1 hs) e (by omega) (by decide) ?_
    refine jG_iconst F (v := (1 : Int32)) dX4_add_37 (by decide) ?_
    refine jG_iadd F dX4_add_38 ?_
    refine jG_iast F dX4_add_39 (jpS_1 hs) e (by omega) (by decide) ?_
    refine jG_eq rfl rfl jpS_st1 ?_
    refine jG_aload_n F dX4_add_40 rfl ?_
    refine jg_X4_15 F dX4_add_41 (jpS_o hs ho) rfl ?_
    refine jG_iload_n F dX4_add_44 rfl ?_
    refine jG_iconst F (v := (5 : Int32)) dX4_add_45 (by decide) ?_
    refine jG_imul F dX4_add_46 ?_
    refine jG_iload F dX4_add_47 rfl ?_
    refine jG_iadd F dX4_add_49 ?_
    refine jG_dup2 F dX4_add_50 rfl rfl ?_
    refine jG_iald F dX4_add_51 (jpS_2 hs) e (by omega) (by decide) ?_
    refine jG_iload_n F dX4_add_52 rfl ?_
    refine jG_iadd F dX4_add_53 ?_
    refine jG_iast F dX4_add_54 (jpS_2 hs) e (by omega) (by decide) ?_
    refine jG_eq rfl rfl jpS_st2 ?_
    refine jG_aload_n F dX4_add_55 rfl ?_
    refine jg_X4_18 F dX4_add_56 (jpS_o hs ho) rfl ?_
    refine jG_iload_n F dX4_add_59 rfl ?_
    refine jG_dup2 F dX4_add_60 rfl rfl ?_
    refine jG_iald F dX4_add_61 (jpS_3 hs) rfl (by omega) (by decide) ?_
    refine jG_iconst F (v := (1 : Int32)) dX4_add_62 (by decide) ?_
    refine jG_iadd F dX4_add_63 ?_
    refine jG_iast F dX4_add_64 (jpS_3 hs) rfl (by omega) (by decide) ?_
    refine jG_eq rfl rfl jpS_st3 ?_
    refine jG_aload_n F dX4_add_65 rfl ?_
    refine jg_X4_18 F dX4_add_66 (jpS_o hs ho) rfl ?_
    refine jG_iload_n F dX4_add_69 rfl ?_
    refine jG_iald F dX4_add_70 (jpS_3 hs) rfl (by omega) (by decide) ?_
    exact jG_iret F T (by simp [upd]) rfl (by first | rfl | exact jnarb _ | (split <;> rfl)) dX4_add_71
  · rw [if_neg q, if_neg q] at T
    refine jG_bipush F (v := (-3 : Int32)) dX4_add_12 (by decide) ?_
    exact jG_iret F T (rfl) rfl (by first | rfl | exact jnarb _ | (split <;> rfl)) dX4_add_14
theorem c_X4_tell {wh : Int32} (hs : s + 3 < h.length) (ho : h[s]? = some (jso E s)) (hp : p < 4) (hk : k < 5) : jMd l E yX4_tell cX4_tell 7 (some .int) 1 [.ref (E.1 + s), .int (nI p), .int (nI k), .int wh] (jpS E h s hm os op) (some (.int (if wh = 2 then hm (p * 5 + k) else if hm (p * 5 + k) = 0 ∨ jgcd 100 (os (p * 5 + k)) (hm (p * 5 + k)) = 0 then -2 else if wh = 0 then os (p * 5 + k) / jgcd 100 (os (p * 5 + k)) (hm (p * 5 + k)) else hm (p * 5 + k) / jgcd 100 (os (p * 5 + k)) (hm (p * 5 + k))))) (jpS E h s hm os op) 0 0 := by
  refine jMd_of (by decide) (Nat.le_of_ble_eq_true rfl) (by simp [Value.category]) rfl (fun x hx F T hmm => ?_)
  have e : nI p * 5 + nI k = nI (p * 5 + k) := by rw [← nI_add, ← pk_mul]; rfl
  refine jG_aload_n F dX4_tell_0 rfl ?_
  refine jg_X4_9 F dX4_tell_1 (jpS_o hs ho) rfl ?_
  refine jG_iload_n F dX4_tell_4 rfl ?_
  refine jG_iconst F (v := (5 : Int32)) dX4_tell_5 (by decide) ?_
  refine jG_imul F dX4_tell_6 ?_
  refine jG_iload_n F dX4_tell_7 rfl ?_
  refine jG_iadd F dX4_tell_8 ?_
  refine jG_iald F dX4_tell_9 (jpS_1 hs) e (by omega) (by decide) ?_
  refine jG_istore_4n F dX4_tell_10 (by decide) ?_
  refine jG_aload_n F dX4_tell_12 rfl ?_
  refine jg_X4_15 F dX4_tell_13 (jpS_o hs ho) rfl ?_
  refine jG_iload_n F dX4_tell_16 rfl ?_
  refine jG_iconst F (v := (5 : Int32)) dX4_tell_17 (by decide) ?_
  refine jG_imul F dX4_tell_18 ?_
  refine jG_iload_n F dX4_tell_19 rfl ?_
  refine jG_iadd F dX4_tell_20 ?_
  refine jG_iald F dX4_tell_21 (jpS_2 hs) e (by omega) (by decide) ?_
  refine jG_istore_5n F dX4_tell_22 (by decide) ?_
  refine jG_iload_n F dX4_tell_24 rfl ?_
  refine jG_iconst F (v := (2 : Int32)) dX4_tell_25 (by decide) ?_
  refine jG_icmp_ne F 32 dX4_tell_26 (by decide) (fun q => ?_) (fun q => ?_)
  · rw [if_neg q] at T
    refine jG_iload F dX4_tell_32 rfl ?_
    refine jG_iload F dX4_tell_34 rfl ?_
    refine jc_X4_27 F dX4_tell_36 (c_X4_commonDivisor) (by decide) (Nat.le_refl 0) (Nat.le_refl 0) (Nat.le_of_ble_eq_true rfl) ?_
    refine jG_istore_6n F dX4_tell_39 (by decide) ?_
    refine jG_iload F dX4_tell_41 rfl ?_
    refine jG_if_eq F 51 dX4_tell_43 (by decide) (fun q2 => ?_) (fun q2 => ?_)
    · rw [if_pos (Or.inl q2)] at T
      refine jG_bipush F (v := (-2 : Int32)) dX4_tell_51 (by decide) ?_
      exact jG_iret F T (rfl) rfl (by first | rfl | exact jnarb _ | (split <;> rfl)) dX4_tell_53
    · refine jG_iload F dX4_tell_46 rfl ?_
      refine jG_if_ne F 54 dX4_tell_48 (by decide) (fun q3 => ?_) (fun q3 => ?_)
      · rw [if_neg (fun z => z.elim q2 q3)] at T
        refine jG_iload_n F dX4_tell_54 rfl ?_
        refine jG_if_ne F 63 dX4_tell_55 (by decide) (fun q4 => ?_) (fun q4 => ?_)
        · rw [if_neg q4] at T
          refine jG_iload F dX4_tell_63 rfl ?_
          refine jG_iload F dX4_tell_65 rfl ?_
          refine jG_idiv F dX4_tell_67 q3 ?_
          exact jG_iret F T (rfl) rfl (by first | rfl | exact jnarb _ | (split <;> rfl)) dX4_tell_68
        · rw [if_pos q4] at T
          refine jG_iload F dX4_tell_58 rfl ?_
          refine jG_goto F 65 dX4_tell_60 (by decide) ?_
          refine jG_iload F dX4_tell_65 rfl ?_
          refine jG_idiv F dX4_tell_67 q3 ?_
          exact jG_iret F T (rfl) rfl (by first | rfl | exact jnarb _ | (split <;> rfl)) dX4_tell_68
      · rw [if_pos (Or.inr q3)] at T
        refine jG_bipush F (v := (-2 : Int32)) dX4_tell_51 (by decide) ?_
        exact jG_iret F T (rfl) rfl (by first | rfl | exact jnarb _ | (split <;> rfl)) dX4_tell_53
  · rw [if_pos q] at T
    refine jG_iload F dX4_tell_29 rfl ?_
    exact jG_iret F T (rfl) rfl (by first | rfl | exact jnarb _ | (split <;> rfl)) dX4_tell_31
end SC
end
