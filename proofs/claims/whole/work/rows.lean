section
-- ===== PART A: goes FIRST, ahead of the names: the tables' words, and 'selects' of the private methods out of them =====
/-- a private method of a class that the tables say can be made, by its rows of tables_1 -/
def lw_okq (q : MethodName × Nat) : Prop := (q.1.cls ≠ "java/lang/invoke/MethodHandle" ∧ q.1.cls ≠ "java/lang/invoke/VarHandle") ∧ Cond.instantiable q.1.cls q.2 ∈ tables_1 ∧ Cond.privateMethod q.1 ∈ tables_1 ∧ Cond.instanceMethod q.1 ∈ tables_1
theorem lw_p0 : lw_okq (⟨"SlitherFence$Board", "tieEdges", "()V"⟩, 16) := ⟨⟨by decide +kernel, by decide +kernel⟩, List.mem_of_getElem? (i := 25) (by decide +kernel), List.mem_of_getElem? (i := 219) (by decide +kernel), List.mem_of_getElem? (i := 220) (by decide +kernel)⟩
theorem lw_p1 : lw_okq (⟨"SlitherFence$Board", "tiePoints", "(III)V"⟩, 16) := ⟨⟨by decide +kernel, by decide +kernel⟩, List.mem_of_getElem? (i := 25) (by decide +kernel), List.mem_of_getElem? (i := 223) (by decide +kernel), List.mem_of_getElem? (i := 224) (by decide +kernel)⟩
theorem lw_p2 : lw_okq (⟨"SlitherFence$Board", "areaAt", "(II)I"⟩, 16) := ⟨⟨by decide +kernel, by decide +kernel⟩, List.mem_of_getElem? (i := 25) (by decide +kernel), List.mem_of_getElem? (i := 227) (by decide +kernel), List.mem_of_getElem? (i := 228) (by decide +kernel)⟩
theorem lw_p3 : lw_okq (⟨"SlitherFence$Board", "tieAreas", "(III)V"⟩, 16) := ⟨⟨by decide +kernel, by decide +kernel⟩, List.mem_of_getElem? (i := 25) (by decide +kernel), List.mem_of_getElem? (i := 231) (by decide +kernel), List.mem_of_getElem? (i := 232) (by decide +kernel)⟩
theorem lw_p4 : lw_okq (⟨"SlitherFence$Board", "placeCells", "()V"⟩, 16) := ⟨⟨by decide +kernel, by decide +kernel⟩, List.mem_of_getElem? (i := 25) (by decide +kernel), List.mem_of_getElem? (i := 235) (by decide +kernel), List.mem_of_getElem? (i := 236) (by decide +kernel)⟩
theorem lw_p5 : lw_okq (⟨"SlitherFence", "unmark", "()V"⟩, 6) := ⟨⟨by decide +kernel, by decide +kernel⟩, List.mem_of_getElem? (i := 17) (by decide +kernel), List.mem_of_getElem? (i := 270) (by decide +kernel), List.mem_of_getElem? (i := 271) (by decide +kernel)⟩
theorem lw_p6 : lw_okq (⟨"SlitherFence$Course", "begin", "(JJ)V"⟩, 8) := ⟨⟨by decide +kernel, by decide +kernel⟩, List.mem_of_getElem? (i := 153) (by decide +kernel), List.mem_of_getElem? (i := 282) (by decide +kernel), List.mem_of_getElem? (i := 283) (by decide +kernel)⟩
theorem lw_p7 : lw_okq (⟨"SlitherFence$Course", "playRound", "()Z"⟩, 8) := ⟨⟨by decide +kernel, by decide +kernel⟩, List.mem_of_getElem? (i := 153) (by decide +kernel), List.mem_of_getElem? (i := 289) (by decide +kernel), List.mem_of_getElem? (i := 290) (by decide +kernel)⟩
theorem lw_p8 : lw_okq (⟨"SlitherFence$State", "hasBrokenCell", "()Z"⟩, 7) := ⟨⟨by decide +kernel, by decide +kernel⟩, List.mem_of_getElem? (i := 101) (by decide +kernel), List.mem_of_getElem? (i := 319) (by decide +kernel), List.mem_of_getElem? (i := 320) (by decide +kernel)⟩
theorem lw_p9 : lw_okq (⟨"SlitherFence$State", "hasBrokenPoint", "()Z"⟩, 7) := ⟨⟨by decide +kernel, by decide +kernel⟩, List.mem_of_getElem? (i := 101) (by decide +kernel), List.mem_of_getElem? (i := 329) (by decide +kernel), List.mem_of_getElem? (i := 330) (by decide +kernel)⟩
theorem lw_p10 : lw_okq (⟨"SlitherFence$State", "hasBrokenLoop", "()Z"⟩, 7) := ⟨⟨by decide +kernel, by decide +kernel⟩, List.mem_of_getElem? (i := 101) (by decide +kernel), List.mem_of_getElem? (i := 337) (by decide +kernel), List.mem_of_getElem? (i := 338) (by decide +kernel)⟩
theorem lw_p11 : lw_okq (⟨"SlitherFence$State", "askCells", "()V"⟩, 7) := ⟨⟨by decide +kernel, by decide +kernel⟩, List.mem_of_getElem? (i := 101) (by decide +kernel), List.mem_of_getElem? (i := 360) (by decide +kernel), List.mem_of_getElem? (i := 361) (by decide +kernel)⟩
theorem lw_p12 : lw_okq (⟨"SlitherFence$State", "want", "(IIJ)V"⟩, 7) := ⟨⟨by decide +kernel, by decide +kernel⟩, List.mem_of_getElem? (i := 101) (by decide +kernel), List.mem_of_getElem? (i := 364) (by decide +kernel), List.mem_of_getElem? (i := 365) (by decide +kernel)⟩
theorem lw_p13 : lw_okq (⟨"SlitherFence$State", "askPoints", "()V"⟩, 7) := ⟨⟨by decide +kernel, by decide +kernel⟩, List.mem_of_getElem? (i := 101) (by decide +kernel), List.mem_of_getElem? (i := 368) (by decide +kernel), List.mem_of_getElem? (i := 369) (by decide +kernel)⟩
theorem lw_p14 : lw_okq (⟨"SlitherFence$State", "askWays", "()V"⟩, 7) := ⟨⟨by decide +kernel, by decide +kernel⟩, List.mem_of_getElem? (i := 101) (by decide +kernel), List.mem_of_getElem? (i := 372) (by decide +kernel), List.mem_of_getElem? (i := 373) (by decide +kernel)⟩
theorem lw_p15 : lw_okq (⟨"SlitherFence$State", "askColours", "()V"⟩, 7) := ⟨⟨by decide +kernel, by decide +kernel⟩, List.mem_of_getElem? (i := 101) (by decide +kernel), List.mem_of_getElem? (i := 381) (by decide +kernel), List.mem_of_getElem? (i := 382) (by decide +kernel)⟩
def lw_privs_1 : List (MethodName × Nat) := [(⟨"SlitherFence$Board", "tieEdges", "()V"⟩, 16), (⟨"SlitherFence$Board", "tiePoints", "(III)V"⟩, 16), (⟨"SlitherFence$Board", "areaAt", "(II)I"⟩, 16), (⟨"SlitherFence$Board", "tieAreas", "(III)V"⟩, 16), (⟨"SlitherFence$Board", "placeCells", "()V"⟩, 16), (⟨"SlitherFence", "unmark", "()V"⟩, 6), (⟨"SlitherFence$Course", "begin", "(JJ)V"⟩, 8), (⟨"SlitherFence$Course", "playRound", "()Z"⟩, 8), (⟨"SlitherFence$State", "hasBrokenCell", "()Z"⟩, 7), (⟨"SlitherFence$State", "hasBrokenPoint", "()Z"⟩, 7), (⟨"SlitherFence$State", "hasBrokenLoop", "()Z"⟩, 7), (⟨"SlitherFence$State", "askCells", "()V"⟩, 7), (⟨"SlitherFence$State", "want", "(IIJ)V"⟩, 7), (⟨"SlitherFence$State", "askPoints", "()V"⟩, 7), (⟨"SlitherFence$State", "askWays", "()V"⟩, 7), (⟨"SlitherFence$State", "askColours", "()V"⟩, 7)]
theorem lw_r1 : ∀ q ∈ lw_privs_1, lw_okq q := List.forall_mem_cons.mpr ⟨lw_p0, List.forall_mem_cons.mpr ⟨lw_p1, List.forall_mem_cons.mpr ⟨lw_p2, List.forall_mem_cons.mpr ⟨lw_p3, List.forall_mem_cons.mpr ⟨lw_p4, List.forall_mem_cons.mpr ⟨lw_p5, List.forall_mem_cons.mpr ⟨lw_p6, List.forall_mem_cons.mpr ⟨lw_p7, List.forall_mem_cons.mpr ⟨lw_p8, List.forall_mem_cons.mpr ⟨lw_p9, List.forall_mem_cons.mpr ⟨lw_p10, List.forall_mem_cons.mpr ⟨lw_p11, List.forall_mem_cons.mpr ⟨lw_p12, List.forall_mem_cons.mpr ⟨lw_p13, List.forall_mem_cons.mpr ⟨lw_p14, List.forall_mem_cons.mpr ⟨lw_p15, fun _ h => absurd h List.not_mem_nil⟩⟩⟩⟩⟩⟩⟩⟩⟩⟩⟩⟩⟩⟩⟩⟩
theorem lw_p16 : lw_okq (⟨"SlitherFence$Course", "decide", "()V"⟩, 8) := ⟨⟨by decide +kernel, by decide +kernel⟩, List.mem_of_getElem? (i := 153) (by decide +kernel), List.mem_of_getElem? (i := 391) (by decide +kernel), List.mem_of_getElem? (i := 392) (by decide +kernel)⟩
theorem lw_p17 : lw_okq (⟨"SlitherFence$Loops", "find", "()V"⟩, 4) := ⟨⟨by decide +kernel, by decide +kernel⟩, List.mem_of_getElem? (i := 190) (by decide +kernel), List.mem_of_getElem? (i := 444) (by decide +kernel), List.mem_of_getElem? (i := 445) (by decide +kernel)⟩
theorem lw_p18 : lw_okq (⟨"SlitherFence$Loops", "isAnswerFor", "(JJIJ)Z"⟩, 4) := ⟨⟨by decide +kernel, by decide +kernel⟩, List.mem_of_getElem? (i := 190) (by decide +kernel), List.mem_of_getElem? (i := 457) (by decide +kernel), List.mem_of_getElem? (i := 458) (by decide +kernel)⟩
theorem lw_p19 : lw_okq (⟨"java/lang/Throwable", "fillInStackTrace", "(I)Ljava/lang/Throwable;"⟩, 6) := ⟨⟨by decide +kernel, by decide +kernel⟩, List.mem_of_getElem? (i := 508) (by decide +kernel), List.mem_of_getElem? (i := 506) (by decide +kernel), List.mem_of_getElem? (i := 507) (by decide +kernel)⟩
theorem lw_p20 : lw_okq (⟨"SlitherFence", "requireCell", "(I)V"⟩, 6) := ⟨⟨by decide +kernel, by decide +kernel⟩, List.mem_of_getElem? (i := 17) (by decide +kernel), List.mem_of_getElem? (i := 550) (by decide +kernel), List.mem_of_getElem? (i := 551) (by decide +kernel)⟩
theorem lw_p21 : lw_okq (⟨"SlitherFence", "requireEdge", "(I)V"⟩, 6) := ⟨⟨by decide +kernel, by decide +kernel⟩, List.mem_of_getElem? (i := 17) (by decide +kernel), List.mem_of_getElem? (i := 578) (by decide +kernel), List.mem_of_getElem? (i := 579) (by decide +kernel)⟩
theorem lw_p22 : lw_okq (⟨"SlitherFence", "requireAnswer", "(I)J"⟩, 6) := ⟨⟨by decide +kernel, by decide +kernel⟩, List.mem_of_getElem? (i := 17) (by decide +kernel), List.mem_of_getElem? (i := 627) (by decide +kernel), List.mem_of_getElem? (i := 628) (by decide +kernel)⟩
theorem lw_p23 : lw_okq (⟨"SlitherFence", "requireSomeAnswer", "()V"⟩, 6) := ⟨⟨by decide +kernel, by decide +kernel⟩, List.mem_of_getElem? (i := 17) (by decide +kernel), List.mem_of_getElem? (i := 651) (by decide +kernel), List.mem_of_getElem? (i := 652) (by decide +kernel)⟩
theorem lw_p24 : lw_okq (⟨"SlitherFenceModel", "lays", "(II)V"⟩, 27) := ⟨⟨by decide +kernel, by decide +kernel⟩, List.mem_of_getElem? (i := 693) (by decide +kernel), List.mem_of_getElem? (i := 699) (by decide +kernel), List.mem_of_getElem? (i := 700) (by decide +kernel)⟩
theorem lw_p25 : lw_okq (⟨"SlitherFenceModel", "cellAt", "(II)I"⟩, 27) := ⟨⟨by decide +kernel, by decide +kernel⟩, List.mem_of_getElem? (i := 693) (by decide +kernel), List.mem_of_getElem? (i := 703) (by decide +kernel), List.mem_of_getElem? (i := 704) (by decide +kernel)⟩
theorem lw_p26 : lw_okq (⟨"SlitherFenceModel", "may", "(Z)Z"⟩, 27) := ⟨⟨by decide +kernel, by decide +kernel⟩, List.mem_of_getElem? (i := 693) (by decide +kernel), List.mem_of_getElem? (i := 798) (by decide +kernel), List.mem_of_getElem? (i := 799) (by decide +kernel)⟩
theorem lw_p27 : lw_okq (⟨"SlitherFenceModel", "isCell", "(I)Z"⟩, 27) := ⟨⟨by decide +kernel, by decide +kernel⟩, List.mem_of_getElem? (i := 693) (by decide +kernel), List.mem_of_getElem? (i := 814) (by decide +kernel), List.mem_of_getElem? (i := 815) (by decide +kernel)⟩
theorem lw_p28 : lw_okq (⟨"SlitherFenceModel", "mayBoth", "(ZZ)Z"⟩, 27) := ⟨⟨by decide +kernel, by decide +kernel⟩, List.mem_of_getElem? (i := 693) (by decide +kernel), List.mem_of_getElem? (i := 818) (by decide +kernel), List.mem_of_getElem? (i := 819) (by decide +kernel)⟩
theorem lw_p29 : lw_okq (⟨"SlitherFenceModel", "isEdge", "(I)Z"⟩, 27) := ⟨⟨by decide +kernel, by decide +kernel⟩, List.mem_of_getElem? (i := 693) (by decide +kernel), List.mem_of_getElem? (i := 826) (by decide +kernel), List.mem_of_getElem? (i := 827) (by decide +kernel)⟩
theorem lw_p30 : lw_okq (⟨"SlitherFenceModel", "follow", "()V"⟩, 27) := ⟨⟨by decide +kernel, by decide +kernel⟩, List.mem_of_getElem? (i := 693) (by decide +kernel), List.mem_of_getElem? (i := 838) (by decide +kernel), List.mem_of_getElem? (i := 839) (by decide +kernel)⟩
theorem lw_p31 : lw_okq (⟨"SlitherFenceModel", "takeMarks", "()V"⟩, 27) := ⟨⟨by decide +kernel, by decide +kernel⟩, List.mem_of_getElem? (i := 693) (by decide +kernel), List.mem_of_getElem? (i := 842) (by decide +kernel), List.mem_of_getElem? (i := 843) (by decide +kernel)⟩
def lw_privs_2 : List (MethodName × Nat) := [(⟨"SlitherFence$Course", "decide", "()V"⟩, 8), (⟨"SlitherFence$Loops", "find", "()V"⟩, 4), (⟨"SlitherFence$Loops", "isAnswerFor", "(JJIJ)Z"⟩, 4), (⟨"java/lang/Throwable", "fillInStackTrace", "(I)Ljava/lang/Throwable;"⟩, 6), (⟨"SlitherFence", "requireCell", "(I)V"⟩, 6), (⟨"SlitherFence", "requireEdge", "(I)V"⟩, 6), (⟨"SlitherFence", "requireAnswer", "(I)J"⟩, 6), (⟨"SlitherFence", "requireSomeAnswer", "()V"⟩, 6), (⟨"SlitherFenceModel", "lays", "(II)V"⟩, 27), (⟨"SlitherFenceModel", "cellAt", "(II)I"⟩, 27), (⟨"SlitherFenceModel", "may", "(Z)Z"⟩, 27), (⟨"SlitherFenceModel", "isCell", "(I)Z"⟩, 27), (⟨"SlitherFenceModel", "mayBoth", "(ZZ)Z"⟩, 27), (⟨"SlitherFenceModel", "isEdge", "(I)Z"⟩, 27), (⟨"SlitherFenceModel", "follow", "()V"⟩, 27), (⟨"SlitherFenceModel", "takeMarks", "()V"⟩, 27)]
theorem lw_r2 : ∀ q ∈ lw_privs_2, lw_okq q := List.forall_mem_cons.mpr ⟨lw_p16, List.forall_mem_cons.mpr ⟨lw_p17, List.forall_mem_cons.mpr ⟨lw_p18, List.forall_mem_cons.mpr ⟨lw_p19, List.forall_mem_cons.mpr ⟨lw_p20, List.forall_mem_cons.mpr ⟨lw_p21, List.forall_mem_cons.mpr ⟨lw_p22, List.forall_mem_cons.mpr ⟨lw_p23, List.forall_mem_cons.mpr ⟨lw_p24, List.forall_mem_cons.mpr ⟨lw_p25, List.forall_mem_cons.mpr ⟨lw_p26, List.forall_mem_cons.mpr ⟨lw_p27, List.forall_mem_cons.mpr ⟨lw_p28, List.forall_mem_cons.mpr ⟨lw_p29, List.forall_mem_cons.mpr ⟨lw_p30, List.forall_mem_cons.mpr ⟨lw_p31, fun _ h => absurd h List.not_mem_nil⟩⟩⟩⟩⟩⟩⟩⟩⟩⟩⟩⟩⟩⟩⟩⟩
theorem lw_p32 : lw_okq (⟨"SlitherFenceModel", "brokenBy", "()I"⟩, 27) := ⟨⟨by decide +kernel, by decide +kernel⟩, List.mem_of_getElem? (i := 693) (by decide +kernel), List.mem_of_getElem? (i := 846) (by decide +kernel), List.mem_of_getElem? (i := 847) (by decide +kernel)⟩
theorem lw_p33 : lw_okq (⟨"SlitherFenceModel", "around", "(II)I"⟩, 27) := ⟨⟨by decide +kernel, by decide +kernel⟩, List.mem_of_getElem? (i := 693) (by decide +kernel), List.mem_of_getElem? (i := 850) (by decide +kernel), List.mem_of_getElem? (i := 851) (by decide +kernel)⟩
theorem lw_p34 : lw_okq (⟨"SlitherFenceModel", "at", "(II)I"⟩, 27) := ⟨⟨by decide +kernel, by decide +kernel⟩, List.mem_of_getElem? (i := 693) (by decide +kernel), List.mem_of_getElem? (i := 854) (by decide +kernel), List.mem_of_getElem? (i := 855) (by decide +kernel)⟩
theorem lw_p35 : lw_okq (⟨"SlitherFenceModel", "labels", "()V"⟩, 27) := ⟨⟨by decide +kernel, by decide +kernel⟩, List.mem_of_getElem? (i := 693) (by decide +kernel), List.mem_of_getElem? (i := 858) (by decide +kernel), List.mem_of_getElem? (i := 859) (by decide +kernel)⟩
theorem lw_p36 : lw_okq (⟨"SlitherFenceModel", "hasLoop", "()Z"⟩, 27) := ⟨⟨by decide +kernel, by decide +kernel⟩, List.mem_of_getElem? (i := 693) (by decide +kernel), List.mem_of_getElem? (i := 862) (by decide +kernel), List.mem_of_getElem? (i := 863) (by decide +kernel)⟩
theorem lw_p37 : lw_okq (⟨"SlitherFenceModel", "waysOf", "()I"⟩, 27) := ⟨⟨by decide +kernel, by decide +kernel⟩, List.mem_of_getElem? (i := 693) (by decide +kernel), List.mem_of_getElem? (i := 866) (by decide +kernel), List.mem_of_getElem? (i := 867) (by decide +kernel)⟩
theorem lw_p38 : lw_okq (⟨"SlitherFenceModel", "areRight", "()Z"⟩, 27) := ⟨⟨by decide +kernel, by decide +kernel⟩, List.mem_of_getElem? (i := 693) (by decide +kernel), List.mem_of_getElem? (i := 870) (by decide +kernel), List.mem_of_getElem? (i := 871) (by decide +kernel)⟩
theorem lw_p39 : lw_okq (⟨"SlitherFenceModel", "chains", "()Z"⟩, 27) := ⟨⟨by decide +kernel, by decide +kernel⟩, List.mem_of_getElem? (i := 693) (by decide +kernel), List.mem_of_getElem? (i := 874) (by decide +kernel), List.mem_of_getElem? (i := 875) (by decide +kernel)⟩
theorem lw_p40 : lw_okq (⟨"SlitherFenceModel", "asks", "()V"⟩, 27) := ⟨⟨by decide +kernel, by decide +kernel⟩, List.mem_of_getElem? (i := 693) (by decide +kernel), List.mem_of_getElem? (i := 878) (by decide +kernel), List.mem_of_getElem? (i := 879) (by decide +kernel)⟩
theorem lw_p41 : lw_okq (⟨"SlitherFenceModel", "wantAround", "(III)V"⟩, 27) := ⟨⟨by decide +kernel, by decide +kernel⟩, List.mem_of_getElem? (i := 693) (by decide +kernel), List.mem_of_getElem? (i := 882) (by decide +kernel), List.mem_of_getElem? (i := 883) (by decide +kernel)⟩
theorem lw_p42 : lw_okq (⟨"SlitherFenceModel", "want", "(III)V"⟩, 27) := ⟨⟨by decide +kernel, by decide +kernel⟩, List.mem_of_getElem? (i := 693) (by decide +kernel), List.mem_of_getElem? (i := 886) (by decide +kernel), List.mem_of_getElem? (i := 887) (by decide +kernel)⟩
theorem lw_p43 : lw_okq (⟨"SlitherFenceModel", "wantAt", "(III)V"⟩, 27) := ⟨⟨by decide +kernel, by decide +kernel⟩, List.mem_of_getElem? (i := 693) (by decide +kernel), List.mem_of_getElem? (i := 890) (by decide +kernel), List.mem_of_getElem? (i := 891) (by decide +kernel)⟩
theorem lw_p44 : lw_okq (⟨"SlitherFenceModel", "closes", "(I)Z"⟩, 27) := ⟨⟨by decide +kernel, by decide +kernel⟩, List.mem_of_getElem? (i := 693) (by decide +kernel), List.mem_of_getElem? (i := 894) (by decide +kernel), List.mem_of_getElem? (i := 895) (by decide +kernel)⟩
theorem lw_p45 : lw_okq (⟨"SlitherFenceModel", "isLoop", "()Z"⟩, 27) := ⟨⟨by decide +kernel, by decide +kernel⟩, List.mem_of_getElem? (i := 693) (by decide +kernel), List.mem_of_getElem? (i := 898) (by decide +kernel), List.mem_of_getElem? (i := 899) (by decide +kernel)⟩
theorem lw_p46 : lw_okq (⟨"SlitherFenceModel", "count", "(I)I"⟩, 27) := ⟨⟨by decide +kernel, by decide +kernel⟩, List.mem_of_getElem? (i := 693) (by decide +kernel), List.mem_of_getElem? (i := 910) (by decide +kernel), List.mem_of_getElem? (i := 911) (by decide +kernel)⟩
theorem lw_p47 : lw_okq (⟨"SlitherFenceModel", "answersWithout", "(I)I"⟩, 27) := ⟨⟨by decide +kernel, by decide +kernel⟩, List.mem_of_getElem? (i := 693) (by decide +kernel), List.mem_of_getElem? (i := 954) (by decide +kernel), List.mem_of_getElem? (i := 955) (by decide +kernel)⟩
def lw_privs_3 : List (MethodName × Nat) := [(⟨"SlitherFenceModel", "brokenBy", "()I"⟩, 27), (⟨"SlitherFenceModel", "around", "(II)I"⟩, 27), (⟨"SlitherFenceModel", "at", "(II)I"⟩, 27), (⟨"SlitherFenceModel", "labels", "()V"⟩, 27), (⟨"SlitherFenceModel", "hasLoop", "()Z"⟩, 27), (⟨"SlitherFenceModel", "waysOf", "()I"⟩, 27), (⟨"SlitherFenceModel", "areRight", "()Z"⟩, 27), (⟨"SlitherFenceModel", "chains", "()Z"⟩, 27), (⟨"SlitherFenceModel", "asks", "()V"⟩, 27), (⟨"SlitherFenceModel", "wantAround", "(III)V"⟩, 27), (⟨"SlitherFenceModel", "want", "(III)V"⟩, 27), (⟨"SlitherFenceModel", "wantAt", "(III)V"⟩, 27), (⟨"SlitherFenceModel", "closes", "(I)Z"⟩, 27), (⟨"SlitherFenceModel", "isLoop", "()Z"⟩, 27), (⟨"SlitherFenceModel", "count", "(I)I"⟩, 27), (⟨"SlitherFenceModel", "answersWithout", "(I)I"⟩, 27)]
theorem lw_r3 : ∀ q ∈ lw_privs_3, lw_okq q := List.forall_mem_cons.mpr ⟨lw_p32, List.forall_mem_cons.mpr ⟨lw_p33, List.forall_mem_cons.mpr ⟨lw_p34, List.forall_mem_cons.mpr ⟨lw_p35, List.forall_mem_cons.mpr ⟨lw_p36, List.forall_mem_cons.mpr ⟨lw_p37, List.forall_mem_cons.mpr ⟨lw_p38, List.forall_mem_cons.mpr ⟨lw_p39, List.forall_mem_cons.mpr ⟨lw_p40, List.forall_mem_cons.mpr ⟨lw_p41, List.forall_mem_cons.mpr ⟨lw_p42, List.forall_mem_cons.mpr ⟨lw_p43, List.forall_mem_cons.mpr ⟨lw_p44, List.forall_mem_cons.mpr ⟨lw_p45, List.forall_mem_cons.mpr ⟨lw_p46, List.forall_mem_cons.mpr ⟨lw_p47, fun _ h => absurd h List.not_mem_nil⟩⟩⟩⟩⟩⟩⟩⟩⟩⟩⟩⟩⟩⟩⟩⟩
theorem lw_p48 : lw_okq (⟨"SlitherFenceModel", "findLoops", "()V"⟩, 27) := ⟨⟨by decide +kernel, by decide +kernel⟩, List.mem_of_getElem? (i := 693) (by decide +kernel), List.mem_of_getElem? (i := 958) (by decide +kernel), List.mem_of_getElem? (i := 959) (by decide +kernel)⟩
theorem lw_p49 : lw_okq (⟨"SlitherFenceModel", "border", "(I)J"⟩, 27) := ⟨⟨by decide +kernel, by decide +kernel⟩, List.mem_of_getElem? (i := 693) (by decide +kernel), List.mem_of_getElem? (i := 962) (by decide +kernel), List.mem_of_getElem? (i := 963) (by decide +kernel)⟩
theorem lw_p50 : lw_okq (⟨"SlitherFenceModel", "fits", "(JI)Z"⟩, 27) := ⟨⟨by decide +kernel, by decide +kernel⟩, List.mem_of_getElem? (i := 693) (by decide +kernel), List.mem_of_getElem? (i := 972) (by decide +kernel), List.mem_of_getElem? (i := 973) (by decide +kernel)⟩
theorem lw_p51 : lw_okq (⟨"SlitherFenceModel", "find", "(I)J"⟩, 27) := ⟨⟨by decide +kernel, by decide +kernel⟩, List.mem_of_getElem? (i := 693) (by decide +kernel), List.mem_of_getElem? (i := 980) (by decide +kernel), List.mem_of_getElem? (i := 981) (by decide +kernel)⟩
theorem lw_p52 : lw_okq (⟨"SlitherFenceModel", "having", "(I)I"⟩, 27) := ⟨⟨by decide +kernel, by decide +kernel⟩, List.mem_of_getElem? (i := 693) (by decide +kernel), List.mem_of_getElem? (i := 992) (by decide +kernel), List.mem_of_getElem? (i := 993) (by decide +kernel)⟩
def lw_privs_4 : List (MethodName × Nat) := [(⟨"SlitherFenceModel", "findLoops", "()V"⟩, 27), (⟨"SlitherFenceModel", "border", "(I)J"⟩, 27), (⟨"SlitherFenceModel", "fits", "(JI)Z"⟩, 27), (⟨"SlitherFenceModel", "find", "(I)J"⟩, 27), (⟨"SlitherFenceModel", "having", "(I)I"⟩, 27)]
theorem lw_r4 : ∀ q ∈ lw_privs_4, lw_okq q := List.forall_mem_cons.mpr ⟨lw_p48, List.forall_mem_cons.mpr ⟨lw_p49, List.forall_mem_cons.mpr ⟨lw_p50, List.forall_mem_cons.mpr ⟨lw_p51, List.forall_mem_cons.mpr ⟨lw_p52, fun _ h => absurd h List.not_mem_nil⟩⟩⟩⟩⟩
def lw_privs : List (MethodName × Nat) := lw_privs_1 ++ (lw_privs_2 ++ (lw_privs_3 ++ (lw_privs_4)))
def lw_tbl : List Cond := k2_sels lw_privs ++ tables_1
theorem lw_privs_ok : ∀ q ∈ lw_privs, lw_okq q := by
  show ∀ q ∈ lw_privs_1 ++ (lw_privs_2 ++ (lw_privs_3 ++ (lw_privs_4))), lw_okq q
  exact List.forall_mem_append.mpr ⟨lw_r1, List.forall_mem_append.mpr ⟨lw_r2, List.forall_mem_append.mpr ⟨lw_r3, lw_r4⟩⟩⟩
-- ===== end of PART A; then your names; then what follows =====
end
section
def RX0 : String := "SlitherFence$Board"
def TX0 : u_T := fun k => match k with
  | 0 => ("SlitherFence$Board", "number", "[I", true)
  | 1 => ("SlitherFence$Board", "edgesOfArea", "[J", true)
  | 2 => ("SlitherFence$Board", "edgesOfPoint", "[J", true)
  | 3 => ("SlitherFence$Board", "onePoint", "[I", true)
  | 4 => ("SlitherFence$Board", "otherPoint", "[I", true)
  | 5 => ("SlitherFence$Board", "oneArea", "[I", true)
  | 6 => ("SlitherFence$Board", "otherArea", "[I", true)
  | 7 => ("SlitherFence$Board", "corner", "[I", true)
  | 8 => ("SlitherFence$Board", "above", "[J", true)
  | 9 => ("SlitherFence$Board", "width", "I", false)
  | 10 => ("SlitherFence$Board", "height", "I", false)
  | 11 => ("SlitherFence$Board", "cells", "I", false)
  | 12 => ("SlitherFence$Board", "points", "I", false)
  | 13 => ("SlitherFence$Board", "edges", "I", false)
  | 14 => ("SlitherFence$Board", "horizontals", "I", false)
  | _ => ("SlitherFence$Board", "allEdges", "J", false)
def tyX0 : Nat → FieldType := fun k => match k with
  | 0 => .array .int
  | 1 => .array .long
  | 2 => .array .long
  | 3 => .array .int
  | 4 => .array .int
  | 5 => .array .int
  | 6 => .array .int
  | 7 => .array .int
  | 8 => .array .long
  | 9 => .int
  | 10 => .int
  | 11 => .int
  | 12 => .int
  | 13 => .int
  | 14 => .int
  | _ => .long
theorem nmX0 : ∀ a, a < 16 → ∀ b, b < 16 → a ≠ b → (TX0 a).2.1 ≠ (TX0 b).2.1 := by decide +kernel
theorem tyX0_ok : ∀ k, k < 16 → parseFieldDescriptor (TX0 k).2.2.1 = some (tyX0 k) := by decide +kernel
abbrev cX0_init : ByteArray := prog_2_method_1_code
def yX0_init : MethodName := ⟨RX0, "<init>", "()V"⟩
abbrev cX0_build : ByteArray := prog_2_method_2_code
def yX0_build : MethodName := ⟨RX0, "build", "(II)V"⟩
abbrev cX0_tieEdges : ByteArray := prog_2_method_3_code
def yX0_tieEdges : MethodName := ⟨RX0, "tieEdges", "()V"⟩
abbrev cX0_tiePoints : ByteArray := prog_2_method_4_code
def yX0_tiePoints : MethodName := ⟨RX0, "tiePoints", "(III)V"⟩
abbrev cX0_tieAreas : ByteArray := prog_2_method_5_code
def yX0_tieAreas : MethodName := ⟨RX0, "tieAreas", "(III)V"⟩
abbrev cX0_areaAt : ByteArray := prog_2_method_6_code
def yX0_areaAt : MethodName := ⟨RX0, "areaAt", "(II)I"⟩
abbrev cX0_placeCells : ByteArray := prog_2_method_7_code
def yX0_placeCells : MethodName := ⟨RX0, "placeCells", "()V"⟩
abbrev cX0_edgeAt : ByteArray := prog_2_method_8_code
def yX0_edgeAt : MethodName := ⟨RX0, "edgeAt", "(II)I"⟩
abbrev cX0_touches : ByteArray := prog_2_method_9_code
def yX0_touches : MethodName := ⟨RX0, "touches", "(JI)Z"⟩
abbrev cX0_hasFork : ByteArray := prog_2_method_10_code
def yX0_hasFork : MethodName := ⟨RX0, "hasFork", "(JI)Z"⟩
abbrev cX0_joinsPointsOf : ByteArray := prog_2_method_11_code
def yX0_joinsPointsOf : MethodName := ⟨RX0, "joinsPointsOf", "(JI)Z"⟩
abbrev cX0_firstWay : ByteArray := prog_2_method_12_code
def yX0_firstWay : MethodName := ⟨RX0, "firstWay", "(J)J"⟩
abbrev cX0_isLoop : ByteArray := prog_2_method_13_code
def yX0_isLoop : MethodName := ⟨RX0, "isLoop", "(J)Z"⟩
abbrev cX0_numbersAreRight : ByteArray := prog_2_method_14_code
def yX0_numbersAreRight : MethodName := ⟨RX0, "numbersAreRight", "(JI)Z"⟩
def RX1 : String := "SlitherFence$Colours"
def TX1 : u_T := fun k => match k with
  | 0 => ("SlitherFence$Colours", "group", "[I", true)
  | 1 => ("SlitherFence$Colours", "colour", "[I", true)
  | 2 => ("SlitherFence$Colours", "areas", "I", false)
  | _ => ("SlitherFence$Colours", "clash", "Z", false)
def tyX1 : Nat → FieldType := fun k => match k with
  | 0 => .array .int
  | 1 => .array .int
  | 2 => .int
  | _ => .boolean
theorem nmX1 : ∀ a, a < 4 → ∀ b, b < 4 → a ≠ b → (TX1 a).2.1 ≠ (TX1 b).2.1 := by decide +kernel
theorem tyX1_ok : ∀ k, k < 4 → parseFieldDescriptor (TX1 k).2.2.1 = some (tyX1 k) := by decide +kernel
abbrev cX1_init : ByteArray := prog_3_method_1_code
def yX1_init : MethodName := ⟨RX1, "<init>", "()V"⟩
abbrev cX1_clear : ByteArray := prog_3_method_2_code
def yX1_clear : MethodName := ⟨RX1, "clear", "(I)V"⟩
abbrev cX1_areJoined : ByteArray := prog_3_method_3_code
def yX1_areJoined : MethodName := ⟨RX1, "areJoined", "(II)Z"⟩
abbrev cX1_differ : ByteArray := prog_3_method_4_code
def yX1_differ : MethodName := ⟨RX1, "differ", "(II)Z"⟩
abbrev cX1_join : ByteArray := prog_3_method_5_code
def yX1_join : MethodName := ⟨RX1, "join", "(IIZ)V"⟩
def RX2 : String := "SlitherFence$Course"
def TX2 : u_T := fun k => match k with
  | 0 => ("SlitherFence$Course", "board", "LSlitherFence$Board;", true)
  | 1 => ("SlitherFence$Course", "state", "LSlitherFence$State;", true)
  | 2 => ("SlitherFence$Course", "roundBy", "[I", true)
  | 3 => ("SlitherFence$Course", "ruleBy", "[I", true)
  | 4 => ("SlitherFence$Course", "lines", "J", false)
  | 5 => ("SlitherFence$Course", "crosses", "J", false)
  | 6 => ("SlitherFence$Course", "count", "I", false)
  | _ => ("SlitherFence$Course", "end", "I", false)
def tyX2 : Nat → FieldType := fun k => match k with
  | 0 => .object "SlitherFence$Board"
  | 1 => .object "SlitherFence$State"
  | 2 => .array .int
  | 3 => .array .int
  | 4 => .long
  | 5 => .long
  | 6 => .int
  | _ => .int
theorem nmX2 : ∀ a, a < 8 → ∀ b, b < 8 → a ≠ b → (TX2 a).2.1 ≠ (TX2 b).2.1 := by decide +kernel
theorem tyX2_ok : ∀ k, k < 8 → parseFieldDescriptor (TX2 k).2.2.1 = some (tyX2 k) := by decide +kernel
abbrev cX2_init : ByteArray := prog_4_method_1_code
def yX2_init : MethodName := ⟨RX2, "<init>", "(LSlitherFence$Board;LSlitherFence$State;)V"⟩
abbrev cX2_run : ByteArray := prog_4_method_2_code
def yX2_run : MethodName := ⟨RX2, "run", "(JJ)V"⟩
abbrev cX2_begin : ByteArray := prog_4_method_3_code
def yX2_begin : MethodName := ⟨RX2, "begin", "(JJ)V"⟩
abbrev cX2_playRound : ByteArray := prog_4_method_4_code
def yX2_playRound : MethodName := ⟨RX2, "playRound", "()Z"⟩
abbrev cX2_decide : ByteArray := prog_4_method_5_code
def yX2_decide : MethodName := ⟨RX2, "decide", "()V"⟩
def RX3 : String := "SlitherFence$Loops"
def TX3 : u_T := fun k => match k with
  | 0 => ("SlitherFence$Loops", "board", "LSlitherFence$Board;", true)
  | 1 => ("SlitherFence$Loops", "loops", "[J", true)
  | 2 => ("SlitherFence$Loops", "count", "I", false)
  | _ => ("SlitherFence$Loops", "complete", "Z", false)
def tyX3 : Nat → FieldType := fun k => match k with
  | 0 => .object "SlitherFence$Board"
  | 1 => .array .long
  | 2 => .int
  | _ => .boolean
theorem nmX3 : ∀ a, a < 4 → ∀ b, b < 4 → a ≠ b → (TX3 a).2.1 ≠ (TX3 b).2.1 := by decide +kernel
theorem tyX3_ok : ∀ k, k < 4 → parseFieldDescriptor (TX3 k).2.2.1 = some (tyX3 k) := by decide +kernel
abbrev cX3_init : ByteArray := prog_5_method_1_code
def yX3_init : MethodName := ⟨RX3, "<init>", "(LSlitherFence$Board;)V"⟩
abbrev cX3_forget : ByteArray := prog_5_method_2_code
def yX3_forget : MethodName := ⟨RX3, "forget", "()V"⟩
abbrev cX3_find : ByteArray := prog_5_method_3_code
def yX3_find : MethodName := ⟨RX3, "find", "()V"⟩
abbrev cX3_grow : ByteArray := prog_5_method_4_code
def yX3_grow : MethodName := ⟨RX3, "grow", "(LSlitherFence$Loops;IJ)V"⟩
abbrev cX3_isAnswerFor : ByteArray := prog_5_method_5_code
def yX3_isAnswerFor : MethodName := ⟨RX3, "isAnswerFor", "(JJIJ)Z"⟩
abbrev cX3_countAnswers : ByteArray := prog_5_method_6_code
def yX3_countAnswers : MethodName := ⟨RX3, "countAnswers", "(JJI)I"⟩
abbrev cX3_findAnswer : ByteArray := prog_5_method_7_code
def yX3_findAnswer : MethodName := ⟨RX3, "findAnswer", "(JJI)J"⟩
abbrev cX3_linesOfAll : ByteArray := prog_5_method_8_code
def yX3_linesOfAll : MethodName := ⟨RX3, "linesOfAll", "(JJ)J"⟩
abbrev cX3_linesOfSome : ByteArray := prog_5_method_9_code
def yX3_linesOfSome : MethodName := ⟨RX3, "linesOfSome", "(JJ)J"⟩
def RX4 : String := "SlitherFence$State"
def TX4 : u_T := fun k => match k with
  | 0 => ("SlitherFence$State", "board", "LSlitherFence$Board;", true)
  | 1 => ("SlitherFence$State", "colours", "LSlitherFence$Colours;", true)
  | 2 => ("SlitherFence$State", "wanted", "[J", true)
  | 3 => ("SlitherFence$State", "lines", "J", false)
  | 4 => ("SlitherFence$State", "unknown", "J", false)
  | 5 => ("SlitherFence$State", "toLine", "J", false)
  | _ => ("SlitherFence$State", "toCross", "J", false)
def tyX4 : Nat → FieldType := fun k => match k with
  | 0 => .object "SlitherFence$Board"
  | 1 => .object "SlitherFence$Colours"
  | 2 => .array .long
  | 3 => .long
  | 4 => .long
  | 5 => .long
  | _ => .long
theorem nmX4 : ∀ a, a < 7 → ∀ b, b < 7 → a ≠ b → (TX4 a).2.1 ≠ (TX4 b).2.1 := by decide +kernel
theorem tyX4_ok : ∀ k, k < 7 → parseFieldDescriptor (TX4 k).2.2.1 = some (tyX4 k) := by decide +kernel
abbrev cX4_init : ByteArray := prog_6_method_1_code
def yX4_init : MethodName := ⟨RX4, "<init>", "(LSlitherFence$Board;)V"⟩
abbrev cX4_look : ByteArray := prog_6_method_2_code
def yX4_look : MethodName := ⟨RX4, "look", "(JJ)V"⟩
abbrev cX4_reason : ByteArray := prog_6_method_3_code
def yX4_reason : MethodName := ⟨RX4, "reason", "()I"⟩
abbrev cX4_hasBrokenCell : ByteArray := prog_6_method_4_code
def yX4_hasBrokenCell : MethodName := ⟨RX4, "hasBrokenCell", "()Z"⟩
abbrev cX4_hasBrokenPoint : ByteArray := prog_6_method_5_code
def yX4_hasBrokenPoint : MethodName := ⟨RX4, "hasBrokenPoint", "()Z"⟩
abbrev cX4_hasBrokenLoop : ByteArray := prog_6_method_6_code
def yX4_hasBrokenLoop : MethodName := ⟨RX4, "hasBrokenLoop", "()Z"⟩
abbrev cX4_askRules : ByteArray := prog_6_method_7_code
def yX4_askRules : MethodName := ⟨RX4, "askRules", "()V"⟩
abbrev cX4_want : ByteArray := prog_6_method_8_code
def yX4_want : MethodName := ⟨RX4, "want", "(IIJ)V"⟩
abbrev cX4_askCells : ByteArray := prog_6_method_9_code
def yX4_askCells : MethodName := ⟨RX4, "askCells", "()V"⟩
abbrev cX4_askPoints : ByteArray := prog_6_method_10_code
def yX4_askPoints : MethodName := ⟨RX4, "askPoints", "()V"⟩
abbrev cX4_askWays : ByteArray := prog_6_method_11_code
def yX4_askWays : MethodName := ⟨RX4, "askWays", "()V"⟩
abbrev cX4_askColours : ByteArray := prog_6_method_12_code
def yX4_askColours : MethodName := ⟨RX4, "askColours", "()V"⟩
abbrev cX4_isTorn : ByteArray := prog_6_method_13_code
def yX4_isTorn : MethodName := ⟨RX4, "isTorn", "()Z"⟩
abbrev cX4_firstRuleFor : ByteArray := prog_6_method_14_code
def yX4_firstRuleFor : MethodName := ⟨RX4, "firstRuleFor", "(I)I"⟩
def RX5 : String := "SlitherFence"
def TX5 : u_T := fun k => match k with
  | 0 => ("SlitherFence", "board", "LSlitherFence$Board;", true)
  | 1 => ("SlitherFence", "state", "LSlitherFence$State;", true)
  | 2 => ("SlitherFence", "course", "LSlitherFence$Course;", true)
  | 3 => ("SlitherFence", "loops", "LSlitherFence$Loops;", true)
  | 4 => ("SlitherFence", "lines", "J", false)
  | _ => ("SlitherFence", "crosses", "J", false)
def tyX5 : Nat → FieldType := fun k => match k with
  | 0 => .object "SlitherFence$Board"
  | 1 => .object "SlitherFence$State"
  | 2 => .object "SlitherFence$Course"
  | 3 => .object "SlitherFence$Loops"
  | 4 => .long
  | _ => .long
theorem nmX5 : ∀ a, a < 6 → ∀ b, b < 6 → a ≠ b → (TX5 a).2.1 ≠ (TX5 b).2.1 := by decide +kernel
theorem tyX5_ok : ∀ k, k < 6 → parseFieldDescriptor (TX5 k).2.2.1 = some (tyX5 k) := by decide +kernel
abbrev cX5_init : ByteArray := prog_1_method_1_code
def yX5_init : MethodName := ⟨RX5, "<init>", "()V"⟩
abbrev cX5_lay : ByteArray := prog_1_method_2_code
def yX5_lay : MethodName := ⟨RX5, "lay", "(II)V"⟩
abbrev cX5_cells : ByteArray := prog_1_method_3_code
def yX5_cells : MethodName := ⟨RX5, "cells", "()I"⟩
abbrev cX5_edges : ByteArray := prog_1_method_4_code
def yX5_edges : MethodName := ⟨RX5, "edges", "()I"⟩
abbrev cX5_number : ByteArray := prog_1_method_5_code
def yX5_number : MethodName := ⟨RX5, "number", "(II)I"⟩
abbrev cX5_mark : ByteArray := prog_1_method_6_code
def yX5_mark : MethodName := ⟨RX5, "mark", "(II)I"⟩
abbrev cX5_wipe : ByteArray := prog_1_method_7_code
def yX5_wipe : MethodName := ⟨RX5, "wipe", "()V"⟩
abbrev cX5_markAll : ByteArray := prog_1_method_8_code
def yX5_markAll : MethodName := ⟨RX5, "markAll", "()I"⟩
abbrev cX5_edgeOf : ByteArray := prog_1_method_9_code
def yX5_edgeOf : MethodName := ⟨RX5, "edgeOf", "(II)I"⟩
abbrev cX5_lines : ByteArray := prog_1_method_10_code
def yX5_lines : MethodName := ⟨RX5, "lines", "()I"⟩
abbrev cX5_ways : ByteArray := prog_1_method_11_code
def yX5_ways : MethodName := ⟨RX5, "ways", "()I"⟩
abbrev cX5_broken : ByteArray := prog_1_method_12_code
def yX5_broken : MethodName := ⟨RX5, "broken", "()I"⟩
abbrev cX5_isAnswer : ByteArray := prog_1_method_13_code
def yX5_isAnswer : MethodName := ⟨RX5, "isAnswer", "()Z"⟩
abbrev cX5_follows : ByteArray := prog_1_method_14_code
def yX5_follows : MethodName := ⟨RX5, "follows", "(I)I"⟩
abbrev cX5_roundOf : ByteArray := prog_1_method_15_code
def yX5_roundOf : MethodName := ⟨RX5, "roundOf", "(I)I"⟩
abbrev cX5_ruleOf : ByteArray := prog_1_method_16_code
def yX5_ruleOf : MethodName := ⟨RX5, "ruleOf", "(I)I"⟩
abbrev cX5_rounds : ByteArray := prog_1_method_17_code
def yX5_rounds : MethodName := ⟨RX5, "rounds", "()I"⟩
abbrev cX5_end : ByteArray := prog_1_method_18_code
def yX5_end : MethodName := ⟨RX5, "end", "()I"⟩
abbrev cX5_hint : ByteArray := prog_1_method_19_code
def yX5_hint : MethodName := ⟨RX5, "hint", "()I"⟩
abbrev cX5_answers : ByteArray := prog_1_method_20_code
def yX5_answers : MethodName := ⟨RX5, "answers", "()I"⟩
abbrev cX5_answer : ByteArray := prog_1_method_21_code
def yX5_answer : MethodName := ⟨RX5, "answer", "(I)J"⟩
abbrev cX5_isInside : ByteArray := prog_1_method_22_code
def yX5_isInside : MethodName := ⟨RX5, "isInside", "(II)Z"⟩
abbrev cX5_proved : ByteArray := prog_1_method_23_code
def yX5_proved : MethodName := ⟨RX5, "proved", "(I)I"⟩
abbrev cX5_beyondRules : ByteArray := prog_1_method_24_code
def yX5_beyondRules : MethodName := ⟨RX5, "beyondRules", "()I"⟩
abbrev cX5_isNeeded : ByteArray := prog_1_method_25_code
def yX5_isNeeded : MethodName := ⟨RX5, "isNeeded", "(I)Z"⟩
abbrev cX5_unmark : ByteArray := prog_1_method_26_code
def yX5_unmark : MethodName := ⟨RX5, "unmark", "()V"⟩
abbrev cX5_requireCell : ByteArray := prog_1_method_27_code
def yX5_requireCell : MethodName := ⟨RX5, "requireCell", "(I)V"⟩
abbrev cX5_requireEdge : ByteArray := prog_1_method_28_code
def yX5_requireEdge : MethodName := ⟨RX5, "requireEdge", "(I)V"⟩
abbrev cX5_requireAnswer : ByteArray := prog_1_method_29_code
def yX5_requireAnswer : MethodName := ⟨RX5, "requireAnswer", "(I)J"⟩
abbrev cX5_requireSomeAnswer : ByteArray := prog_1_method_30_code
def yX5_requireSomeAnswer : MethodName := ⟨RX5, "requireSomeAnswer", "()V"⟩
abbrev cX5_has : ByteArray := prog_1_method_31_code
def yX5_has : MethodName := ⟨RX5, "has", "(JI)Z"⟩
abbrev cX5_stateIn : ByteArray := prog_1_method_32_code
def yX5_stateIn : MethodName := ⟨RX5, "stateIn", "(JJI)I"⟩
def RX6 : String := "SlitherFenceModel"
def TX6 : u_T := fun k => match k with
  | 0 => ("SlitherFenceModel", "width", "I", false)
  | 1 => ("SlitherFenceModel", "height", "I", false)
  | 2 => ("SlitherFenceModel", "cells", "I", false)
  | 3 => ("SlitherFenceModel", "edges", "I", false)
  | 4 => ("SlitherFenceModel", "points", "I", false)
  | 5 => ("SlitherFenceModel", "one", "[I", true)
  | 6 => ("SlitherFenceModel", "other", "[I", true)
  | 7 => ("SlitherFenceModel", "area", "[I", true)
  | 8 => ("SlitherFenceModel", "beside", "[I", true)
  | 9 => ("SlitherFenceModel", "sides", "[I", true)
  | 10 => ("SlitherFenceModel", "number", "[I", true)
  | 11 => ("SlitherFenceModel", "marks", "[I", true)
  | 12 => ("SlitherFenceModel", "state", "[I", true)
  | 13 => ("SlitherFenceModel", "wants", "[I", true)
  | 14 => ("SlitherFenceModel", "wanting", "[I", true)
  | 15 => ("SlitherFenceModel", "round", "[I", true)
  | 16 => ("SlitherFenceModel", "rule", "[I", true)
  | 17 => ("SlitherFenceModel", "rounds", "I", false)
  | 18 => ("SlitherFenceModel", "end", "I", false)
  | 19 => ("SlitherFenceModel", "label", "[I", true)
  | 20 => ("SlitherFenceModel", "chain", "[I", true)
  | 21 => ("SlitherFenceModel", "odd", "[Z", true)
  | 22 => ("SlitherFenceModel", "degree", "[I", true)
  | 23 => ("SlitherFenceModel", "loops", "[J", true)
  | 24 => ("SlitherFenceModel", "loopCount", "I", false)
  | 25 => ("SlitherFenceModel", "loopsOf", "I", false)
  | _ => ("SlitherFenceModel", "thrown", "I", false)
def tyX6 : Nat → FieldType := fun k => match k with
  | 0 => .int
  | 1 => .int
  | 2 => .int
  | 3 => .int
  | 4 => .int
  | 5 => .array .int
  | 6 => .array .int
  | 7 => .array .int
  | 8 => .array .int
  | 9 => .array .int
  | 10 => .array .int
  | 11 => .array .int
  | 12 => .array .int
  | 13 => .array .int
  | 14 => .array .int
  | 15 => .array .int
  | 16 => .array .int
  | 17 => .int
  | 18 => .int
  | 19 => .array .int
  | 20 => .array .int
  | 21 => .array .boolean
  | 22 => .array .int
  | 23 => .array .long
  | 24 => .int
  | 25 => .int
  | _ => .int
theorem nmX6 : ∀ a, a < 27 → ∀ b, b < 27 → a ≠ b → (TX6 a).2.1 ≠ (TX6 b).2.1 := by decide +kernel
theorem tyX6_ok : ∀ k, k < 27 → parseFieldDescriptor (TX6 k).2.2.1 = some (tyX6 k) := by decide +kernel
abbrev cX6_init : ByteArray := prog_8_method_1_code
def yX6_init : MethodName := ⟨RX6, "<init>", "()V"⟩
abbrev cX6_thrown : ByteArray := prog_8_method_2_code
def yX6_thrown : MethodName := ⟨RX6, "thrown", "()I"⟩
abbrev cX6_may : ByteArray := prog_8_method_3_code
def yX6_may : MethodName := ⟨RX6, "may", "(Z)Z"⟩
abbrev cX6_mayBoth : ByteArray := prog_8_method_4_code
def yX6_mayBoth : MethodName := ⟨RX6, "mayBoth", "(ZZ)Z"⟩
abbrev cX6_isCell : ByteArray := prog_8_method_5_code
def yX6_isCell : MethodName := ⟨RX6, "isCell", "(I)Z"⟩
abbrev cX6_isEdge : ByteArray := prog_8_method_6_code
def yX6_isEdge : MethodName := ⟨RX6, "isEdge", "(I)Z"⟩
abbrev cX6_cellAt : ByteArray := prog_8_method_7_code
def yX6_cellAt : MethodName := ⟨RX6, "cellAt", "(II)I"⟩
abbrev cX6_lays : ByteArray := prog_8_method_8_code
def yX6_lays : MethodName := ⟨RX6, "lays", "(II)V"⟩
abbrev cX6_lay : ByteArray := prog_8_method_9_code
def yX6_lay : MethodName := ⟨RX6, "lay", "(II)V"⟩
abbrev cX6_cells : ByteArray := prog_8_method_10_code
def yX6_cells : MethodName := ⟨RX6, "cells", "()I"⟩
abbrev cX6_edges : ByteArray := prog_8_method_11_code
def yX6_edges : MethodName := ⟨RX6, "edges", "()I"⟩
abbrev cX6_number : ByteArray := prog_8_method_12_code
def yX6_number : MethodName := ⟨RX6, "number", "(II)I"⟩
abbrev cX6_mark : ByteArray := prog_8_method_13_code
def yX6_mark : MethodName := ⟨RX6, "mark", "(II)I"⟩
abbrev cX6_wipe : ByteArray := prog_8_method_14_code
def yX6_wipe : MethodName := ⟨RX6, "wipe", "()V"⟩
abbrev cX6_markAll : ByteArray := prog_8_method_15_code
def yX6_markAll : MethodName := ⟨RX6, "markAll", "()I"⟩
abbrev cX6_edgeOf : ByteArray := prog_8_method_16_code
def yX6_edgeOf : MethodName := ⟨RX6, "edgeOf", "(II)I"⟩
abbrev cX6_takeMarks : ByteArray := prog_8_method_17_code
def yX6_takeMarks : MethodName := ⟨RX6, "takeMarks", "()V"⟩
abbrev cX6_around : ByteArray := prog_8_method_18_code
def yX6_around : MethodName := ⟨RX6, "around", "(II)I"⟩
abbrev cX6_at : ByteArray := prog_8_method_19_code
def yX6_at : MethodName := ⟨RX6, "at", "(II)I"⟩
abbrev cX6_count : ByteArray := prog_8_method_20_code
def yX6_count : MethodName := ⟨RX6, "count", "(I)I"⟩
abbrev cX6_areRight : ByteArray := prog_8_method_21_code
def yX6_areRight : MethodName := ⟨RX6, "areRight", "()Z"⟩
abbrev cX6_labels : ByteArray := prog_8_method_22_code
def yX6_labels : MethodName := ⟨RX6, "labels", "()V"⟩
abbrev cX6_waysOf : ByteArray := prog_8_method_23_code
def yX6_waysOf : MethodName := ⟨RX6, "waysOf", "()I"⟩
abbrev cX6_isLoop : ByteArray := prog_8_method_24_code
def yX6_isLoop : MethodName := ⟨RX6, "isLoop", "()Z"⟩
abbrev cX6_hasLoop : ByteArray := prog_8_method_25_code
def yX6_hasLoop : MethodName := ⟨RX6, "hasLoop", "()Z"⟩
abbrev cX6_chains : ByteArray := prog_8_method_26_code
def yX6_chains : MethodName := ⟨RX6, "chains", "()Z"⟩
abbrev cX6_brokenBy : ByteArray := prog_8_method_27_code
def yX6_brokenBy : MethodName := ⟨RX6, "brokenBy", "()I"⟩
abbrev cX6_want : ByteArray := prog_8_method_28_code
def yX6_want : MethodName := ⟨RX6, "want", "(III)V"⟩
abbrev cX6_wantAround : ByteArray := prog_8_method_29_code
def yX6_wantAround : MethodName := ⟨RX6, "wantAround", "(III)V"⟩
abbrev cX6_wantAt : ByteArray := prog_8_method_30_code
def yX6_wantAt : MethodName := ⟨RX6, "wantAt", "(III)V"⟩
abbrev cX6_closes : ByteArray := prog_8_method_31_code
def yX6_closes : MethodName := ⟨RX6, "closes", "(I)Z"⟩
abbrev cX6_asks : ByteArray := prog_8_method_32_code
def yX6_asks : MethodName := ⟨RX6, "asks", "()V"⟩
abbrev cX6_follow : ByteArray := prog_8_method_33_code
def yX6_follow : MethodName := ⟨RX6, "follow", "()V"⟩
abbrev cX6_lines : ByteArray := prog_8_method_34_code
def yX6_lines : MethodName := ⟨RX6, "lines", "()I"⟩
abbrev cX6_ways : ByteArray := prog_8_method_35_code
def yX6_ways : MethodName := ⟨RX6, "ways", "()I"⟩
abbrev cX6_broken : ByteArray := prog_8_method_36_code
def yX6_broken : MethodName := ⟨RX6, "broken", "()I"⟩
abbrev cX6_isAnswer : ByteArray := prog_8_method_37_code
def yX6_isAnswer : MethodName := ⟨RX6, "isAnswer", "()Z"⟩
abbrev cX6_follows : ByteArray := prog_8_method_38_code
def yX6_follows : MethodName := ⟨RX6, "follows", "(I)I"⟩
abbrev cX6_roundOf : ByteArray := prog_8_method_39_code
def yX6_roundOf : MethodName := ⟨RX6, "roundOf", "(I)I"⟩
abbrev cX6_ruleOf : ByteArray := prog_8_method_40_code
def yX6_ruleOf : MethodName := ⟨RX6, "ruleOf", "(I)I"⟩
abbrev cX6_rounds : ByteArray := prog_8_method_41_code
def yX6_rounds : MethodName := ⟨RX6, "rounds", "()I"⟩
abbrev cX6_end : ByteArray := prog_8_method_42_code
def yX6_end : MethodName := ⟨RX6, "end", "()I"⟩
abbrev cX6_hint : ByteArray := prog_8_method_43_code
def yX6_hint : MethodName := ⟨RX6, "hint", "()I"⟩
abbrev cX6_has : ByteArray := prog_8_method_44_code
def yX6_has : MethodName := ⟨RX6, "has", "(JI)Z"⟩
abbrev cX6_border : ByteArray := prog_8_method_45_code
def yX6_border : MethodName := ⟨RX6, "border", "(I)J"⟩
abbrev cX6_isAhead : ByteArray := prog_8_method_46_code
def yX6_isAhead : MethodName := ⟨RX6, "isAhead", "(JJ)Z"⟩
abbrev cX6_findLoops : ByteArray := prog_8_method_47_code
def yX6_findLoops : MethodName := ⟨RX6, "findLoops", "()V"⟩
abbrev cX6_fits : ByteArray := prog_8_method_48_code
def yX6_fits : MethodName := ⟨RX6, "fits", "(JI)Z"⟩
abbrev cX6_answersWithout : ByteArray := prog_8_method_49_code
def yX6_answersWithout : MethodName := ⟨RX6, "answersWithout", "(I)I"⟩
abbrev cX6_find : ByteArray := prog_8_method_50_code
def yX6_find : MethodName := ⟨RX6, "find", "(I)J"⟩
abbrev cX6_answers : ByteArray := prog_8_method_51_code
def yX6_answers : MethodName := ⟨RX6, "answers", "()I"⟩
abbrev cX6_answer : ByteArray := prog_8_method_52_code
def yX6_answer : MethodName := ⟨RX6, "answer", "(I)J"⟩
abbrev cX6_isInside : ByteArray := prog_8_method_53_code
def yX6_isInside : MethodName := ⟨RX6, "isInside", "(II)Z"⟩
abbrev cX6_having : ByteArray := prog_8_method_54_code
def yX6_having : MethodName := ⟨RX6, "having", "(I)I"⟩
abbrev cX6_proved : ByteArray := prog_8_method_55_code
def yX6_proved : MethodName := ⟨RX6, "proved", "(I)I"⟩
abbrev cX6_beyondRules : ByteArray := prog_8_method_56_code
def yX6_beyondRules : MethodName := ⟨RX6, "beyondRules", "()I"⟩
abbrev cX6_isNeeded : ByteArray := prog_8_method_57_code
def yX6_isNeeded : MethodName := ⟨RX6, "isNeeded", "(I)Z"⟩
def RJx145de : String := "java/io/Serializable"
def TJx145de : u_T := fun k => match k with
  | _ => ("", "", "", false)
def tyJx145de : Nat → FieldType := fun k => match k with
  | _ => .int
theorem nmJx145de : ∀ a, a < 0 → ∀ b, b < 0 → a ≠ b → (TJx145de a).2.1 ≠ (TJx145de b).2.1 := by decide +kernel
theorem tyJx145de_ok : ∀ k, k < 0 → parseFieldDescriptor (TJx145de k).2.2.1 = some (tyJx145de k) := by decide +kernel
def RJ13 : String := "java/lang/Long"
def TJ13 : u_T := fun k => match k with
  | _ => ("", "", "", false)
def tyJ13 : Nat → FieldType := fun k => match k with
  | _ => .int
theorem nmJ13 : ∀ a, a < 0 → ∀ b, b < 0 → a ≠ b → (TJ13 a).2.1 ≠ (TJ13 b).2.1 := by decide +kernel
theorem tyJ13_ok : ∀ k, k < 0 → parseFieldDescriptor (TJ13 k).2.2.1 = some (tyJ13 k) := by decide +kernel
abbrev cJ13_bitCount_95d88 : ByteArray := prog_13_method_50_code
def yJ13_bitCount_95d88 : MethodName := ⟨RJ13, "bitCount", "(J)I"⟩
def RJ0 : String := "java/lang/String"
def TJ0 : u_T := fun k => match k with
  | _ => ("", "", "", false)
def tyJ0 : Nat → FieldType := fun k => match k with
  | _ => .int
theorem nmJ0 : ∀ a, a < 0 → ∀ b, b < 0 → a ≠ b → (TJ0 a).2.1 ≠ (TJ0 b).2.1 := by decide +kernel
theorem tyJ0_ok : ∀ k, k < 0 → parseFieldDescriptor (TJ0 k).2.2.1 = some (tyJ0 k) := by decide +kernel
def RJ7 : String := "java/util/Arrays"
def TJ7 : u_T := fun k => match k with
  | _ => ("", "", "", false)
def tyJ7 : Nat → FieldType := fun k => match k with
  | _ => .int
theorem nmJ7 : ∀ a, a < 0 → ∀ b, b < 0 → a ≠ b → (TJ7 a).2.1 ≠ (TJ7 b).2.1 := by decide +kernel
theorem tyJ7_ok : ∀ k, k < 0 → parseFieldDescriptor (TJ7 k).2.2.1 = some (tyJ7 k) := by decide +kernel
abbrev cJ7_fill_d0a16 : ByteArray := prog_17_method_101_code
def yJ7_fill_d0a16 : MethodName := ⟨RJ7, "fill", "([JJ)V"⟩
abbrev cJ7_fill_53178 : ByteArray := prog_17_method_103_code
def yJ7_fill_53178 : MethodName := ⟨RJ7, "fill", "([II)V"⟩
def RL : String := "SlitherFenceLaw"
abbrev cL_lay : ByteArray := method_3_code
def yL_lay : MethodName := ⟨RL, "lay", "(LSlitherFence;II)I"⟩
abbrev cL_number : ByteArray := method_4_code
def yL_number : MethodName := ⟨RL, "number", "(LSlitherFence;II[J)I"⟩
abbrev cL_mark : ByteArray := method_5_code
def yL_mark : MethodName := ⟨RL, "mark", "(LSlitherFence;II[J)I"⟩
abbrev cL_edgeOf : ByteArray := method_6_code
def yL_edgeOf : MethodName := ⟨RL, "edgeOf", "(LSlitherFence;II[J)I"⟩
abbrev cL_follows : ByteArray := method_7_code
def yL_follows : MethodName := ⟨RL, "follows", "(LSlitherFence;I[J)I"⟩
abbrev cL_roundOf : ByteArray := method_8_code
def yL_roundOf : MethodName := ⟨RL, "roundOf", "(LSlitherFence;I[J)I"⟩
abbrev cL_ruleOf : ByteArray := method_9_code
def yL_ruleOf : MethodName := ⟨RL, "ruleOf", "(LSlitherFence;I[J)I"⟩
abbrev cL_answer : ByteArray := method_10_code
def yL_answer : MethodName := ⟨RL, "answer", "(LSlitherFence;I[J)I"⟩
abbrev cL_isInside : ByteArray := method_11_code
def yL_isInside : MethodName := ⟨RL, "isInside", "(LSlitherFence;II[J)I"⟩
abbrev cL_proved : ByteArray := method_12_code
def yL_proved : MethodName := ⟨RL, "proved", "(LSlitherFence;I[J)I"⟩
abbrev cL_beyondRules : ByteArray := method_13_code
def yL_beyondRules : MethodName := ⟨RL, "beyondRules", "(LSlitherFence;[J)I"⟩
abbrev cL_isNeeded : ByteArray := method_14_code
def yL_isNeeded : MethodName := ⟨RL, "isNeeded", "(LSlitherFence;I[J)I"⟩
abbrev cL_law : ByteArray := code
def yL_law : MethodName := ⟨RL, "law", "([I)Z"⟩
abbrev vwCl : List vw_C := [(RX0, TX0, 16), (RX1, TX1, 4), (RX2, TX2, 8), (RX3, TX3, 4), (RX4, TX4, 7), (RX5, TX5, 6), (RX6, TX6, 27)]
end
section
theorem dX0_init_0 : decode cX0_init 0 = .ok (.aload_n 0, 1) := by decide +kernel
theorem dX0_init_1 : decode cX0_init 1 = .ok (.invokespecial 3, 3) := by decide +kernel
theorem dX0_init_4 : decode cX0_init 4 = .ok (.aload_n 0, 1) := by decide +kernel
theorem dX0_init_5 : decode cX0_init 5 = .ok (.bipush 16, 2) := by decide +kernel
theorem dX0_init_7 : decode cX0_init 7 = .ok (.newarray .int, 2) := by decide +kernel
theorem dX0_init_9 : decode cX0_init 9 = .ok (.putfield 9, 3) := by decide +kernel
theorem dX0_init_12 : decode cX0_init 12 = .ok (.aload_n 0, 1) := by decide +kernel
theorem dX0_init_13 : decode cX0_init 13 = .ok (.bipush 17, 2) := by decide +kernel
theorem dX0_init_15 : decode cX0_init 15 = .ok (.newarray .long, 2) := by decide +kernel
theorem dX0_init_17 : decode cX0_init 17 = .ok (.putfield 15, 3) := by decide +kernel
theorem dX0_init_20 : decode cX0_init 20 = .ok (.aload_n 0, 1) := by decide +kernel
theorem dX0_init_21 : decode cX0_init 21 = .ok (.bipush 25, 2) := by decide +kernel
theorem dX0_init_23 : decode cX0_init 23 = .ok (.newarray .long, 2) := by decide +kernel
theorem dX0_init_25 : decode cX0_init 25 = .ok (.putfield 19, 3) := by decide +kernel
theorem dX0_init_28 : decode cX0_init 28 = .ok (.aload_n 0, 1) := by decide +kernel
theorem dX0_init_29 : decode cX0_init 29 = .ok (.bipush 40, 2) := by decide +kernel
theorem dX0_init_31 : decode cX0_init 31 = .ok (.newarray .int, 2) := by decide +kernel
theorem dX0_init_33 : decode cX0_init 33 = .ok (.putfield 22, 3) := by decide +kernel
theorem dX0_init_36 : decode cX0_init 36 = .ok (.aload_n 0, 1) := by decide +kernel
theorem dX0_init_37 : decode cX0_init 37 = .ok (.bipush 40, 2) := by decide +kernel
theorem dX0_init_39 : decode cX0_init 39 = .ok (.newarray .int, 2) := by decide +kernel
theorem dX0_init_41 : decode cX0_init 41 = .ok (.putfield 25, 3) := by decide +kernel
theorem dX0_init_44 : decode cX0_init 44 = .ok (.aload_n 0, 1) := by decide +kernel
theorem dX0_init_45 : decode cX0_init 45 = .ok (.bipush 40, 2) := by decide +kernel
theorem dX0_init_47 : decode cX0_init 47 = .ok (.newarray .int, 2) := by decide +kernel
theorem dX0_init_49 : decode cX0_init 49 = .ok (.putfield 28, 3) := by decide +kernel
theorem dX0_init_52 : decode cX0_init 52 = .ok (.aload_n 0, 1) := by decide +kernel
theorem dX0_init_53 : decode cX0_init 53 = .ok (.bipush 40, 2) := by decide +kernel
theorem dX0_init_55 : decode cX0_init 55 = .ok (.newarray .int, 2) := by decide +kernel
theorem dX0_init_57 : decode cX0_init 57 = .ok (.putfield 31, 3) := by decide +kernel
theorem dX0_init_60 : decode cX0_init 60 = .ok (.aload_n 0, 1) := by decide +kernel
theorem dX0_init_61 : decode cX0_init 61 = .ok (.bipush 16, 2) := by decide +kernel
theorem dX0_init_63 : decode cX0_init 63 = .ok (.newarray .int, 2) := by decide +kernel
theorem dX0_init_65 : decode cX0_init 65 = .ok (.putfield 34, 3) := by decide +kernel
theorem dX0_init_68 : decode cX0_init 68 = .ok (.aload_n 0, 1) := by decide +kernel
theorem dX0_init_69 : decode cX0_init 69 = .ok (.bipush 16, 2) := by decide +kernel
theorem dX0_init_71 : decode cX0_init 71 = .ok (.newarray .long, 2) := by decide +kernel
theorem dX0_init_73 : decode cX0_init 73 = .ok (.putfield 37, 3) := by decide +kernel
theorem dX0_init_76 : decode cX0_init 76 = .ok (.return_, 1) := by decide +kernel
theorem dX0_build_0 : decode cX0_build 0 = .ok (.aload_n 0, 1) := by decide +kernel
theorem dX0_build_1 : decode cX0_build 1 = .ok (.iload_n 1, 1) := by decide +kernel
theorem dX0_build_2 : decode cX0_build 2 = .ok (.putfield 40, 3) := by decide +kernel
theorem dX0_build_5 : decode cX0_build 5 = .ok (.aload_n 0, 1) := by decide +kernel
theorem dX0_build_6 : decode cX0_build 6 = .ok (.iload_n 2, 1) := by decide +kernel
theorem dX0_build_7 : decode cX0_build 7 = .ok (.putfield 44, 3) := by decide +kernel
theorem dX0_build_10 : decode cX0_build 10 = .ok (.aload_n 0, 1) := by decide +kernel
theorem dX0_build_11 : decode cX0_build 11 = .ok (.aload_n 0, 1) := by decide +kernel
theorem dX0_build_12 : decode cX0_build 12 = .ok (.getfield 40, 3) := by decide +kernel
theorem dX0_build_15 : decode cX0_build 15 = .ok (.aload_n 0, 1) := by decide +kernel
theorem dX0_build_16 : decode cX0_build 16 = .ok (.getfield 44, 3) := by decide +kernel
theorem dX0_build_19 : decode cX0_build 19 = .ok (.imul, 1) := by decide +kernel
theorem dX0_build_20 : decode cX0_build 20 = .ok (.putfield 47, 3) := by decide +kernel
theorem dX0_build_23 : decode cX0_build 23 = .ok (.aload_n 0, 1) := by decide +kernel
theorem dX0_build_24 : decode cX0_build 24 = .ok (.aload_n 0, 1) := by decide +kernel
theorem dX0_build_25 : decode cX0_build 25 = .ok (.getfield 40, 3) := by decide +kernel
theorem dX0_build_28 : decode cX0_build 28 = .ok (.iconst 1, 1) := by decide +kernel
theorem dX0_build_29 : decode cX0_build 29 = .ok (.iadd, 1) := by decide +kernel
theorem dX0_build_30 : decode cX0_build 30 = .ok (.aload_n 0, 1) := by decide +kernel
theorem dX0_build_31 : decode cX0_build 31 = .ok (.getfield 44, 3) := by decide +kernel
theorem dX0_build_34 : decode cX0_build 34 = .ok (.iconst 1, 1) := by decide +kernel
theorem dX0_build_35 : decode cX0_build 35 = .ok (.iadd, 1) := by decide +kernel
theorem dX0_build_36 : decode cX0_build 36 = .ok (.imul, 1) := by decide +kernel
theorem dX0_build_37 : decode cX0_build 37 = .ok (.putfield 50, 3) := by decide +kernel
theorem dX0_build_40 : decode cX0_build 40 = .ok (.aload_n 0, 1) := by decide +kernel
theorem dX0_build_41 : decode cX0_build 41 = .ok (.aload_n 0, 1) := by decide +kernel
theorem dX0_build_42 : decode cX0_build 42 = .ok (.getfield 40, 3) := by decide +kernel
theorem dX0_build_45 : decode cX0_build 45 = .ok (.aload_n 0, 1) := by decide +kernel
theorem dX0_build_46 : decode cX0_build 46 = .ok (.getfield 44, 3) := by decide +kernel
theorem dX0_build_49 : decode cX0_build 49 = .ok (.iconst 1, 1) := by decide +kernel
theorem dX0_build_50 : decode cX0_build 50 = .ok (.iadd, 1) := by decide +kernel
theorem dX0_build_51 : decode cX0_build 51 = .ok (.imul, 1) := by decide +kernel
theorem dX0_build_52 : decode cX0_build 52 = .ok (.putfield 53, 3) := by decide +kernel
theorem dX0_build_55 : decode cX0_build 55 = .ok (.aload_n 0, 1) := by decide +kernel
theorem dX0_build_56 : decode cX0_build 56 = .ok (.aload_n 0, 1) := by decide +kernel
theorem dX0_build_57 : decode cX0_build 57 = .ok (.getfield 53, 3) := by decide +kernel
theorem dX0_build_60 : decode cX0_build 60 = .ok (.aload_n 0, 1) := by decide +kernel
theorem dX0_build_61 : decode cX0_build 61 = .ok (.getfield 40, 3) := by decide +kernel
theorem dX0_build_64 : decode cX0_build 64 = .ok (.iconst 1, 1) := by decide +kernel
theorem dX0_build_65 : decode cX0_build 65 = .ok (.iadd, 1) := by decide +kernel
theorem dX0_build_66 : decode cX0_build 66 = .ok (.aload_n 0, 1) := by decide +kernel
theorem dX0_build_67 : decode cX0_build 67 = .ok (.getfield 44, 3) := by decide +kernel
theorem dX0_build_70 : decode cX0_build 70 = .ok (.imul, 1) := by decide +kernel
theorem dX0_build_71 : decode cX0_build 71 = .ok (.iadd, 1) := by decide +kernel
theorem dX0_build_72 : decode cX0_build 72 = .ok (.putfield 56, 3) := by decide +kernel
theorem dX0_build_75 : decode cX0_build 75 = .ok (.aload_n 0, 1) := by decide +kernel
theorem dX0_build_76 : decode cX0_build 76 = .ok (.lconst 1, 1) := by decide +kernel
theorem dX0_build_77 : decode cX0_build 77 = .ok (.aload_n 0, 1) := by decide +kernel
theorem dX0_build_78 : decode cX0_build 78 = .ok (.getfield 56, 3) := by decide +kernel
theorem dX0_build_81 : decode cX0_build 81 = .ok (.lshl, 1) := by decide +kernel
theorem dX0_build_82 : decode cX0_build 82 = .ok (.lconst 1, 1) := by decide +kernel
theorem dX0_build_83 : decode cX0_build 83 = .ok (.lsub, 1) := by decide +kernel
theorem dX0_build_84 : decode cX0_build 84 = .ok (.putfield 59, 3) := by decide +kernel
theorem dX0_build_87 : decode cX0_build 87 = .ok (.aload_n 0, 1) := by decide +kernel
theorem dX0_build_88 : decode cX0_build 88 = .ok (.getfield 9, 3) := by decide +kernel
theorem dX0_build_91 : decode cX0_build 91 = .ok (.iconst (-1), 1) := by decide +kernel
theorem dX0_build_92 : decode cX0_build 92 = .ok (.invokestatic 63, 3) := by decide +kernel
theorem dX0_build_95 : decode cX0_build 95 = .ok (.aload_n 0, 1) := by decide +kernel
theorem dX0_build_96 : decode cX0_build 96 = .ok (.getfield 15, 3) := by decide +kernel
theorem dX0_build_99 : decode cX0_build 99 = .ok (.lconst 0, 1) := by decide +kernel
theorem dX0_build_100 : decode cX0_build 100 = .ok (.invokestatic 69, 3) := by decide +kernel
theorem dX0_build_103 : decode cX0_build 103 = .ok (.aload_n 0, 1) := by decide +kernel
theorem dX0_build_104 : decode cX0_build 104 = .ok (.getfield 19, 3) := by decide +kernel
theorem dX0_build_107 : decode cX0_build 107 = .ok (.lconst 0, 1) := by decide +kernel
theorem dX0_build_108 : decode cX0_build 108 = .ok (.invokestatic 69, 3) := by decide +kernel
theorem dX0_build_111 : decode cX0_build 111 = .ok (.aload_n 0, 1) := by decide +kernel
theorem dX0_build_112 : decode cX0_build 112 = .ok (.invokevirtual 72, 3) := by decide +kernel
theorem dX0_build_115 : decode cX0_build 115 = .ok (.aload_n 0, 1) := by decide +kernel
theorem dX0_build_116 : decode cX0_build 116 = .ok (.invokevirtual 75, 3) := by decide +kernel
theorem dX0_build_119 : decode cX0_build 119 = .ok (.return_, 1) := by decide +kernel
theorem dX0_tieEdges_0 : decode cX0_tieEdges 0 = .ok (.iconst 0, 1) := by decide +kernel
theorem dX0_tieEdges_1 : decode cX0_tieEdges 1 = .ok (.istore_n 1, 1) := by decide +kernel
theorem dX0_tieEdges_2 : decode cX0_tieEdges 2 = .ok (.iload_n 1, 1) := by decide +kernel
theorem dX0_tieEdges_3 : decode cX0_tieEdges 3 = .ok (.aload_n 0, 1) := by decide +kernel
theorem dX0_tieEdges_4 : decode cX0_tieEdges 4 = .ok (.getfield 44, 3) := by decide +kernel
theorem dX0_tieEdges_7 : decode cX0_tieEdges 7 = .ok (.if_icmp .gt 76, 3) := by decide +kernel
theorem dX0_tieEdges_10 : decode cX0_tieEdges 10 = .ok (.iconst 0, 1) := by decide +kernel
theorem dX0_tieEdges_11 : decode cX0_tieEdges 11 = .ok (.istore_n 2, 1) := by decide +kernel
theorem dX0_tieEdges_12 : decode cX0_tieEdges 12 = .ok (.iload_n 2, 1) := by decide +kernel
theorem dX0_tieEdges_13 : decode cX0_tieEdges 13 = .ok (.aload_n 0, 1) := by decide +kernel
theorem dX0_tieEdges_14 : decode cX0_tieEdges 14 = .ok (.getfield 40, 3) := by decide +kernel
theorem dX0_tieEdges_17 : decode cX0_tieEdges 17 = .ok (.if_icmp .ge 60, 3) := by decide +kernel
theorem dX0_tieEdges_20 : decode cX0_tieEdges 20 = .ok (.iload_n 1, 1) := by decide +kernel
theorem dX0_tieEdges_21 : decode cX0_tieEdges 21 = .ok (.aload_n 0, 1) := by decide +kernel
theorem dX0_tieEdges_22 : decode cX0_tieEdges 22 = .ok (.getfield 40, 3) := by decide +kernel
theorem dX0_tieEdges_25 : decode cX0_tieEdges 25 = .ok (.iconst 1, 1) := by decide +kernel
theorem dX0_tieEdges_26 : decode cX0_tieEdges 26 = .ok (.iadd, 1) := by decide +kernel
theorem dX0_tieEdges_27 : decode cX0_tieEdges 27 = .ok (.imul, 1) := by decide +kernel
theorem dX0_tieEdges_28 : decode cX0_tieEdges 28 = .ok (.iload_n 2, 1) := by decide +kernel
theorem dX0_tieEdges_29 : decode cX0_tieEdges 29 = .ok (.iadd, 1) := by decide +kernel
theorem dX0_tieEdges_30 : decode cX0_tieEdges 30 = .ok (.istore_n 3, 1) := by decide +kernel
theorem dX0_tieEdges_31 : decode cX0_tieEdges 31 = .ok (.iload_n 1, 1) := by decide +kernel
theorem dX0_tieEdges_32 : decode cX0_tieEdges 32 = .ok (.aload_n 0, 1) := by decide +kernel
theorem dX0_tieEdges_33 : decode cX0_tieEdges 33 = .ok (.getfield 40, 3) := by decide +kernel
theorem dX0_tieEdges_36 : decode cX0_tieEdges 36 = .ok (.imul, 1) := by decide +kernel
theorem dX0_tieEdges_37 : decode cX0_tieEdges 37 = .ok (.iload_n 2, 1) := by decide +kernel
theorem dX0_tieEdges_38 : decode cX0_tieEdges 38 = .ok (.iadd, 1) := by decide +kernel
theorem dX0_tieEdges_39 : decode cX0_tieEdges 39 = .ok (.istore 4, 2) := by decide +kernel
theorem dX0_tieEdges_41 : decode cX0_tieEdges 41 = .ok (.aload_n 0, 1) := by decide +kernel
theorem dX0_tieEdges_42 : decode cX0_tieEdges 42 = .ok (.iload 4, 2) := by decide +kernel
theorem dX0_tieEdges_44 : decode cX0_tieEdges 44 = .ok (.iload_n 3, 1) := by decide +kernel
theorem dX0_tieEdges_45 : decode cX0_tieEdges 45 = .ok (.iload_n 3, 1) := by decide +kernel
theorem dX0_tieEdges_46 : decode cX0_tieEdges 46 = .ok (.iconst 1, 1) := by decide +kernel
theorem dX0_tieEdges_47 : decode cX0_tieEdges 47 = .ok (.iadd, 1) := by decide +kernel
theorem dX0_tieEdges_48 : decode cX0_tieEdges 48 = .ok (.invokevirtual 78, 3) := by decide +kernel
theorem dX0_tieEdges_51 : decode cX0_tieEdges 51 = .ok (.aload_n 0, 1) := by decide +kernel
theorem dX0_tieEdges_52 : decode cX0_tieEdges 52 = .ok (.iload 4, 2) := by decide +kernel
theorem dX0_tieEdges_54 : decode cX0_tieEdges 54 = .ok (.aload_n 0, 1) := by decide +kernel
theorem dX0_tieEdges_55 : decode cX0_tieEdges 55 = .ok (.iload_n 1, 1) := by decide +kernel
theorem dX0_tieEdges_56 : decode cX0_tieEdges 56 = .ok (.iconst 1, 1) := by decide +kernel
theorem dX0_tieEdges_57 : decode cX0_tieEdges 57 = .ok (.isub, 1) := by decide +kernel
theorem dX0_tieEdges_58 : decode cX0_tieEdges 58 = .ok (.iload_n 2, 1) := by decide +kernel
theorem dX0_tieEdges_59 : decode cX0_tieEdges 59 = .ok (.invokevirtual 82, 3) := by decide +kernel
theorem dX0_tieEdges_62 : decode cX0_tieEdges 62 = .ok (.aload_n 0, 1) := by decide +kernel
theorem dX0_tieEdges_63 : decode cX0_tieEdges 63 = .ok (.iload_n 1, 1) := by decide +kernel
theorem dX0_tieEdges_64 : decode cX0_tieEdges 64 = .ok (.iload_n 2, 1) := by decide +kernel
theorem dX0_tieEdges_65 : decode cX0_tieEdges 65 = .ok (.invokevirtual 82, 3) := by decide +kernel
theorem dX0_tieEdges_68 : decode cX0_tieEdges 68 = .ok (.invokevirtual 86, 3) := by decide +kernel
theorem dX0_tieEdges_71 : decode cX0_tieEdges 71 = .ok (.iinc 2 1, 3) := by decide +kernel
theorem dX0_tieEdges_74 : decode cX0_tieEdges 74 = .ok (.goto (-62), 3) := by decide +kernel
theorem dX0_tieEdges_77 : decode cX0_tieEdges 77 = .ok (.iinc 1 1, 3) := by decide +kernel
theorem dX0_tieEdges_80 : decode cX0_tieEdges 80 = .ok (.goto (-78), 3) := by decide +kernel
theorem dX0_tieEdges_83 : decode cX0_tieEdges 83 = .ok (.iconst 0, 1) := by decide +kernel
theorem dX0_tieEdges_84 : decode cX0_tieEdges 84 = .ok (.istore_n 1, 1) := by decide +kernel
theorem dX0_tieEdges_85 : decode cX0_tieEdges 85 = .ok (.iload_n 1, 1) := by decide +kernel
theorem dX0_tieEdges_86 : decode cX0_tieEdges 86 = .ok (.aload_n 0, 1) := by decide +kernel
theorem dX0_tieEdges_87 : decode cX0_tieEdges 87 = .ok (.getfield 44, 3) := by decide +kernel
theorem dX0_tieEdges_90 : decode cX0_tieEdges 90 = .ok (.if_icmp .ge 79, 3) := by decide +kernel
theorem dX0_tieEdges_93 : decode cX0_tieEdges 93 = .ok (.iconst 0, 1) := by decide +kernel
theorem dX0_tieEdges_94 : decode cX0_tieEdges 94 = .ok (.istore_n 2, 1) := by decide +kernel
theorem dX0_tieEdges_95 : decode cX0_tieEdges 95 = .ok (.iload_n 2, 1) := by decide +kernel
theorem dX0_tieEdges_96 : decode cX0_tieEdges 96 = .ok (.aload_n 0, 1) := by decide +kernel
theorem dX0_tieEdges_97 : decode cX0_tieEdges 97 = .ok (.getfield 40, 3) := by decide +kernel
theorem dX0_tieEdges_100 : decode cX0_tieEdges 100 = .ok (.if_icmp .gt 63, 3) := by decide +kernel
theorem dX0_tieEdges_103 : decode cX0_tieEdges 103 = .ok (.iload_n 1, 1) := by decide +kernel
theorem dX0_tieEdges_104 : decode cX0_tieEdges 104 = .ok (.aload_n 0, 1) := by decide +kernel
theorem dX0_tieEdges_105 : decode cX0_tieEdges 105 = .ok (.getfield 40, 3) := by decide +kernel
theorem dX0_tieEdges_108 : decode cX0_tieEdges 108 = .ok (.iconst 1, 1) := by decide +kernel
theorem dX0_tieEdges_109 : decode cX0_tieEdges 109 = .ok (.iadd, 1) := by decide +kernel
theorem dX0_tieEdges_110 : decode cX0_tieEdges 110 = .ok (.imul, 1) := by decide +kernel
theorem dX0_tieEdges_111 : decode cX0_tieEdges 111 = .ok (.iload_n 2, 1) := by decide +kernel
theorem dX0_tieEdges_112 : decode cX0_tieEdges 112 = .ok (.iadd, 1) := by decide +kernel
theorem dX0_tieEdges_113 : decode cX0_tieEdges 113 = .ok (.istore_n 3, 1) := by decide +kernel
theorem dX0_tieEdges_114 : decode cX0_tieEdges 114 = .ok (.aload_n 0, 1) := by decide +kernel
theorem dX0_tieEdges_115 : decode cX0_tieEdges 115 = .ok (.getfield 53, 3) := by decide +kernel
theorem dX0_tieEdges_118 : decode cX0_tieEdges 118 = .ok (.iload_n 3, 1) := by decide +kernel
theorem dX0_tieEdges_119 : decode cX0_tieEdges 119 = .ok (.iadd, 1) := by decide +kernel
theorem dX0_tieEdges_120 : decode cX0_tieEdges 120 = .ok (.istore 4, 2) := by decide +kernel
theorem dX0_tieEdges_122 : decode cX0_tieEdges 122 = .ok (.aload_n 0, 1) := by decide +kernel
theorem dX0_tieEdges_123 : decode cX0_tieEdges 123 = .ok (.iload 4, 2) := by decide +kernel
theorem dX0_tieEdges_125 : decode cX0_tieEdges 125 = .ok (.iload_n 3, 1) := by decide +kernel
theorem dX0_tieEdges_126 : decode cX0_tieEdges 126 = .ok (.iload_n 3, 1) := by decide +kernel
theorem dX0_tieEdges_127 : decode cX0_tieEdges 127 = .ok (.aload_n 0, 1) := by decide +kernel
theorem dX0_tieEdges_128 : decode cX0_tieEdges 128 = .ok (.getfield 40, 3) := by decide +kernel
theorem dX0_tieEdges_131 : decode cX0_tieEdges 131 = .ok (.iadd, 1) := by decide +kernel
theorem dX0_tieEdges_132 : decode cX0_tieEdges 132 = .ok (.iconst 1, 1) := by decide +kernel
theorem dX0_tieEdges_133 : decode cX0_tieEdges 133 = .ok (.iadd, 1) := by decide +kernel
theorem dX0_tieEdges_134 : decode cX0_tieEdges 134 = .ok (.invokevirtual 78, 3) := by decide +kernel
theorem dX0_tieEdges_137 : decode cX0_tieEdges 137 = .ok (.aload_n 0, 1) := by decide +kernel
theorem dX0_tieEdges_138 : decode cX0_tieEdges 138 = .ok (.iload 4, 2) := by decide +kernel
theorem dX0_tieEdges_140 : decode cX0_tieEdges 140 = .ok (.aload_n 0, 1) := by decide +kernel
theorem dX0_tieEdges_141 : decode cX0_tieEdges 141 = .ok (.iload_n 1, 1) := by decide +kernel
theorem dX0_tieEdges_142 : decode cX0_tieEdges 142 = .ok (.iload_n 2, 1) := by decide +kernel
theorem dX0_tieEdges_143 : decode cX0_tieEdges 143 = .ok (.iconst 1, 1) := by decide +kernel
theorem dX0_tieEdges_144 : decode cX0_tieEdges 144 = .ok (.isub, 1) := by decide +kernel
theorem dX0_tieEdges_145 : decode cX0_tieEdges 145 = .ok (.invokevirtual 82, 3) := by decide +kernel
theorem dX0_tieEdges_148 : decode cX0_tieEdges 148 = .ok (.aload_n 0, 1) := by decide +kernel
theorem dX0_tieEdges_149 : decode cX0_tieEdges 149 = .ok (.iload_n 1, 1) := by decide +kernel
theorem dX0_tieEdges_150 : decode cX0_tieEdges 150 = .ok (.iload_n 2, 1) := by decide +kernel
theorem dX0_tieEdges_151 : decode cX0_tieEdges 151 = .ok (.invokevirtual 82, 3) := by decide +kernel
theorem dX0_tieEdges_154 : decode cX0_tieEdges 154 = .ok (.invokevirtual 86, 3) := by decide +kernel
theorem dX0_tieEdges_157 : decode cX0_tieEdges 157 = .ok (.iinc 2 1, 3) := by decide +kernel
theorem dX0_tieEdges_160 : decode cX0_tieEdges 160 = .ok (.goto (-65), 3) := by decide +kernel
theorem dX0_tieEdges_163 : decode cX0_tieEdges 163 = .ok (.iinc 1 1, 3) := by decide +kernel
theorem dX0_tieEdges_166 : decode cX0_tieEdges 166 = .ok (.goto (-81), 3) := by decide +kernel
theorem dX0_tieEdges_169 : decode cX0_tieEdges 169 = .ok (.return_, 1) := by decide +kernel
theorem dX0_tiePoints_0 : decode cX0_tiePoints 0 = .ok (.aload_n 0, 1) := by decide +kernel
theorem dX0_tiePoints_1 : decode cX0_tiePoints 1 = .ok (.getfield 22, 3) := by decide +kernel
theorem dX0_tiePoints_4 : decode cX0_tiePoints 4 = .ok (.iload_n 1, 1) := by decide +kernel
theorem dX0_tiePoints_5 : decode cX0_tiePoints 5 = .ok (.iload_n 2, 1) := by decide +kernel
theorem dX0_tiePoints_6 : decode cX0_tiePoints 6 = .ok (.iastore, 1) := by decide +kernel
theorem dX0_tiePoints_7 : decode cX0_tiePoints 7 = .ok (.aload_n 0, 1) := by decide +kernel
theorem dX0_tiePoints_8 : decode cX0_tiePoints 8 = .ok (.getfield 25, 3) := by decide +kernel
theorem dX0_tiePoints_11 : decode cX0_tiePoints 11 = .ok (.iload_n 1, 1) := by decide +kernel
theorem dX0_tiePoints_12 : decode cX0_tiePoints 12 = .ok (.iload_n 3, 1) := by decide +kernel
theorem dX0_tiePoints_13 : decode cX0_tiePoints 13 = .ok (.iastore, 1) := by decide +kernel
theorem dX0_tiePoints_14 : decode cX0_tiePoints 14 = .ok (.aload_n 0, 1) := by decide +kernel
theorem dX0_tiePoints_15 : decode cX0_tiePoints 15 = .ok (.getfield 19, 3) := by decide +kernel
theorem dX0_tiePoints_18 : decode cX0_tiePoints 18 = .ok (.iload_n 2, 1) := by decide +kernel
theorem dX0_tiePoints_19 : decode cX0_tiePoints 19 = .ok (.dup2, 1) := by decide +kernel
theorem dX0_tiePoints_20 : decode cX0_tiePoints 20 = .ok (.laload, 1) := by decide +kernel
theorem dX0_tiePoints_21 : decode cX0_tiePoints 21 = .ok (.lconst 1, 1) := by decide +kernel
theorem dX0_tiePoints_22 : decode cX0_tiePoints 22 = .ok (.iload_n 1, 1) := by decide +kernel
theorem dX0_tiePoints_23 : decode cX0_tiePoints 23 = .ok (.lshl, 1) := by decide +kernel
theorem dX0_tiePoints_24 : decode cX0_tiePoints 24 = .ok (.lor, 1) := by decide +kernel
theorem dX0_tiePoints_25 : decode cX0_tiePoints 25 = .ok (.lastore, 1) := by decide +kernel
theorem dX0_tiePoints_26 : decode cX0_tiePoints 26 = .ok (.aload_n 0, 1) := by decide +kernel
theorem dX0_tiePoints_27 : decode cX0_tiePoints 27 = .ok (.getfield 19, 3) := by decide +kernel
theorem dX0_tiePoints_30 : decode cX0_tiePoints 30 = .ok (.iload_n 3, 1) := by decide +kernel
theorem dX0_tiePoints_31 : decode cX0_tiePoints 31 = .ok (.dup2, 1) := by decide +kernel
theorem dX0_tiePoints_32 : decode cX0_tiePoints 32 = .ok (.laload, 1) := by decide +kernel
theorem dX0_tiePoints_33 : decode cX0_tiePoints 33 = .ok (.lconst 1, 1) := by decide +kernel
theorem dX0_tiePoints_34 : decode cX0_tiePoints 34 = .ok (.iload_n 1, 1) := by decide +kernel
theorem dX0_tiePoints_35 : decode cX0_tiePoints 35 = .ok (.lshl, 1) := by decide +kernel
theorem dX0_tiePoints_36 : decode cX0_tiePoints 36 = .ok (.lor, 1) := by decide +kernel
theorem dX0_tiePoints_37 : decode cX0_tiePoints 37 = .ok (.lastore, 1) := by decide +kernel
theorem dX0_tiePoints_38 : decode cX0_tiePoints 38 = .ok (.return_, 1) := by decide +kernel
theorem dX0_tieAreas_0 : decode cX0_tieAreas 0 = .ok (.aload_n 0, 1) := by decide +kernel
theorem dX0_tieAreas_1 : decode cX0_tieAreas 1 = .ok (.getfield 28, 3) := by decide +kernel
theorem dX0_tieAreas_4 : decode cX0_tieAreas 4 = .ok (.iload_n 1, 1) := by decide +kernel
theorem dX0_tieAreas_5 : decode cX0_tieAreas 5 = .ok (.iload_n 2, 1) := by decide +kernel
theorem dX0_tieAreas_6 : decode cX0_tieAreas 6 = .ok (.iastore, 1) := by decide +kernel
theorem dX0_tieAreas_7 : decode cX0_tieAreas 7 = .ok (.aload_n 0, 1) := by decide +kernel
theorem dX0_tieAreas_8 : decode cX0_tieAreas 8 = .ok (.getfield 31, 3) := by decide +kernel
theorem dX0_tieAreas_11 : decode cX0_tieAreas 11 = .ok (.iload_n 1, 1) := by decide +kernel
theorem dX0_tieAreas_12 : decode cX0_tieAreas 12 = .ok (.iload_n 3, 1) := by decide +kernel
theorem dX0_tieAreas_13 : decode cX0_tieAreas 13 = .ok (.iastore, 1) := by decide +kernel
theorem dX0_tieAreas_14 : decode cX0_tieAreas 14 = .ok (.aload_n 0, 1) := by decide +kernel
theorem dX0_tieAreas_15 : decode cX0_tieAreas 15 = .ok (.getfield 15, 3) := by decide +kernel
theorem dX0_tieAreas_18 : decode cX0_tieAreas 18 = .ok (.iload_n 2, 1) := by decide +kernel
theorem dX0_tieAreas_19 : decode cX0_tieAreas 19 = .ok (.dup2, 1) := by decide +kernel
theorem dX0_tieAreas_20 : decode cX0_tieAreas 20 = .ok (.laload, 1) := by decide +kernel
theorem dX0_tieAreas_21 : decode cX0_tieAreas 21 = .ok (.lconst 1, 1) := by decide +kernel
theorem dX0_tieAreas_22 : decode cX0_tieAreas 22 = .ok (.iload_n 1, 1) := by decide +kernel
theorem dX0_tieAreas_23 : decode cX0_tieAreas 23 = .ok (.lshl, 1) := by decide +kernel
theorem dX0_tieAreas_24 : decode cX0_tieAreas 24 = .ok (.lor, 1) := by decide +kernel
theorem dX0_tieAreas_25 : decode cX0_tieAreas 25 = .ok (.lastore, 1) := by decide +kernel
theorem dX0_tieAreas_26 : decode cX0_tieAreas 26 = .ok (.aload_n 0, 1) := by decide +kernel
theorem dX0_tieAreas_27 : decode cX0_tieAreas 27 = .ok (.getfield 15, 3) := by decide +kernel
theorem dX0_tieAreas_30 : decode cX0_tieAreas 30 = .ok (.iload_n 3, 1) := by decide +kernel
theorem dX0_tieAreas_31 : decode cX0_tieAreas 31 = .ok (.dup2, 1) := by decide +kernel
theorem dX0_tieAreas_32 : decode cX0_tieAreas 32 = .ok (.laload, 1) := by decide +kernel
theorem dX0_tieAreas_33 : decode cX0_tieAreas 33 = .ok (.lconst 1, 1) := by decide +kernel
theorem dX0_tieAreas_34 : decode cX0_tieAreas 34 = .ok (.iload_n 1, 1) := by decide +kernel
theorem dX0_tieAreas_35 : decode cX0_tieAreas 35 = .ok (.lshl, 1) := by decide +kernel
theorem dX0_tieAreas_36 : decode cX0_tieAreas 36 = .ok (.lor, 1) := by decide +kernel
theorem dX0_tieAreas_37 : decode cX0_tieAreas 37 = .ok (.lastore, 1) := by decide +kernel
theorem dX0_tieAreas_38 : decode cX0_tieAreas 38 = .ok (.return_, 1) := by decide +kernel
theorem dX0_areaAt_0 : decode cX0_areaAt 0 = .ok (.iload_n 1, 1) := by decide +kernel
theorem dX0_areaAt_1 : decode cX0_areaAt 1 = .ok (.ifCond .lt 27, 3) := by decide +kernel
theorem dX0_areaAt_4 : decode cX0_areaAt 4 = .ok (.iload_n 1, 1) := by decide +kernel
theorem dX0_areaAt_5 : decode cX0_areaAt 5 = .ok (.aload_n 0, 1) := by decide +kernel
theorem dX0_areaAt_6 : decode cX0_areaAt 6 = .ok (.getfield 44, 3) := by decide +kernel
theorem dX0_areaAt_9 : decode cX0_areaAt 9 = .ok (.if_icmp .ge 19, 3) := by decide +kernel
theorem dX0_areaAt_12 : decode cX0_areaAt 12 = .ok (.iload_n 2, 1) := by decide +kernel
theorem dX0_areaAt_13 : decode cX0_areaAt 13 = .ok (.ifCond .lt 15, 3) := by decide +kernel
theorem dX0_areaAt_16 : decode cX0_areaAt 16 = .ok (.iload_n 2, 1) := by decide +kernel
theorem dX0_areaAt_17 : decode cX0_areaAt 17 = .ok (.aload_n 0, 1) := by decide +kernel
theorem dX0_areaAt_18 : decode cX0_areaAt 18 = .ok (.getfield 40, 3) := by decide +kernel
theorem dX0_areaAt_21 : decode cX0_areaAt 21 = .ok (.if_icmp .ge 7, 3) := by decide +kernel
theorem dX0_areaAt_24 : decode cX0_areaAt 24 = .ok (.iconst 1, 1) := by decide +kernel
theorem dX0_areaAt_25 : decode cX0_areaAt 25 = .ok (.goto 4, 3) := by decide +kernel
theorem dX0_areaAt_28 : decode cX0_areaAt 28 = .ok (.iconst 0, 1) := by decide +kernel
theorem dX0_areaAt_29 : decode cX0_areaAt 29 = .ok (.istore_n 3, 1) := by decide +kernel
theorem dX0_areaAt_30 : decode cX0_areaAt 30 = .ok (.iload_n 3, 1) := by decide +kernel
theorem dX0_areaAt_31 : decode cX0_areaAt 31 = .ok (.ifCond .eq 14, 3) := by decide +kernel
theorem dX0_areaAt_34 : decode cX0_areaAt 34 = .ok (.iload_n 1, 1) := by decide +kernel
theorem dX0_areaAt_35 : decode cX0_areaAt 35 = .ok (.aload_n 0, 1) := by decide +kernel
theorem dX0_areaAt_36 : decode cX0_areaAt 36 = .ok (.getfield 40, 3) := by decide +kernel
theorem dX0_areaAt_39 : decode cX0_areaAt 39 = .ok (.imul, 1) := by decide +kernel
theorem dX0_areaAt_40 : decode cX0_areaAt 40 = .ok (.iload_n 2, 1) := by decide +kernel
theorem dX0_areaAt_41 : decode cX0_areaAt 41 = .ok (.iadd, 1) := by decide +kernel
theorem dX0_areaAt_42 : decode cX0_areaAt 42 = .ok (.goto 7, 3) := by decide +kernel
theorem dX0_areaAt_45 : decode cX0_areaAt 45 = .ok (.aload_n 0, 1) := by decide +kernel
theorem dX0_areaAt_46 : decode cX0_areaAt 46 = .ok (.getfield 47, 3) := by decide +kernel
theorem dX0_areaAt_49 : decode cX0_areaAt 49 = .ok (.ireturn, 1) := by decide +kernel
theorem dX0_placeCells_0 : decode cX0_placeCells 0 = .ok (.iconst 0, 1) := by decide +kernel
theorem dX0_placeCells_1 : decode cX0_placeCells 1 = .ok (.istore_n 1, 1) := by decide +kernel
theorem dX0_placeCells_2 : decode cX0_placeCells 2 = .ok (.iload_n 1, 1) := by decide +kernel
theorem dX0_placeCells_3 : decode cX0_placeCells 3 = .ok (.aload_n 0, 1) := by decide +kernel
theorem dX0_placeCells_4 : decode cX0_placeCells 4 = .ok (.getfield 44, 3) := by decide +kernel
theorem dX0_placeCells_7 : decode cX0_placeCells 7 = .ok (.if_icmp .ge 79, 3) := by decide +kernel
theorem dX0_placeCells_10 : decode cX0_placeCells 10 = .ok (.iconst 0, 1) := by decide +kernel
theorem dX0_placeCells_11 : decode cX0_placeCells 11 = .ok (.istore_n 2, 1) := by decide +kernel
theorem dX0_placeCells_12 : decode cX0_placeCells 12 = .ok (.iload_n 2, 1) := by decide +kernel
theorem dX0_placeCells_13 : decode cX0_placeCells 13 = .ok (.aload_n 0, 1) := by decide +kernel
theorem dX0_placeCells_14 : decode cX0_placeCells 14 = .ok (.getfield 40, 3) := by decide +kernel
theorem dX0_placeCells_17 : decode cX0_placeCells 17 = .ok (.if_icmp .ge 63, 3) := by decide +kernel
theorem dX0_placeCells_20 : decode cX0_placeCells 20 = .ok (.iload_n 1, 1) := by decide +kernel
theorem dX0_placeCells_21 : decode cX0_placeCells 21 = .ok (.aload_n 0, 1) := by decide +kernel
theorem dX0_placeCells_22 : decode cX0_placeCells 22 = .ok (.getfield 40, 3) := by decide +kernel
theorem dX0_placeCells_25 : decode cX0_placeCells 25 = .ok (.imul, 1) := by decide +kernel
theorem dX0_placeCells_26 : decode cX0_placeCells 26 = .ok (.iload_n 2, 1) := by decide +kernel
theorem dX0_placeCells_27 : decode cX0_placeCells 27 = .ok (.iadd, 1) := by decide +kernel
theorem dX0_placeCells_28 : decode cX0_placeCells 28 = .ok (.istore_n 3, 1) := by decide +kernel
theorem dX0_placeCells_29 : decode cX0_placeCells 29 = .ok (.aload_n 0, 1) := by decide +kernel
theorem dX0_placeCells_30 : decode cX0_placeCells 30 = .ok (.getfield 34, 3) := by decide +kernel
theorem dX0_placeCells_33 : decode cX0_placeCells 33 = .ok (.iload_n 3, 1) := by decide +kernel
theorem dX0_placeCells_34 : decode cX0_placeCells 34 = .ok (.iload_n 1, 1) := by decide +kernel
theorem dX0_placeCells_35 : decode cX0_placeCells 35 = .ok (.aload_n 0, 1) := by decide +kernel
theorem dX0_placeCells_36 : decode cX0_placeCells 36 = .ok (.getfield 40, 3) := by decide +kernel
theorem dX0_placeCells_39 : decode cX0_placeCells 39 = .ok (.iconst 1, 1) := by decide +kernel
theorem dX0_placeCells_40 : decode cX0_placeCells 40 = .ok (.iadd, 1) := by decide +kernel
theorem dX0_placeCells_41 : decode cX0_placeCells 41 = .ok (.imul, 1) := by decide +kernel
theorem dX0_placeCells_42 : decode cX0_placeCells 42 = .ok (.iload_n 2, 1) := by decide +kernel
theorem dX0_placeCells_43 : decode cX0_placeCells 43 = .ok (.iadd, 1) := by decide +kernel
theorem dX0_placeCells_44 : decode cX0_placeCells 44 = .ok (.iastore, 1) := by decide +kernel
theorem dX0_placeCells_45 : decode cX0_placeCells 45 = .ok (.aload_n 0, 1) := by decide +kernel
theorem dX0_placeCells_46 : decode cX0_placeCells 46 = .ok (.getfield 37, 3) := by decide +kernel
theorem dX0_placeCells_49 : decode cX0_placeCells 49 = .ok (.iload_n 3, 1) := by decide +kernel
theorem dX0_placeCells_50 : decode cX0_placeCells 50 = .ok (.lconst 1, 1) := by decide +kernel
theorem dX0_placeCells_51 : decode cX0_placeCells 51 = .ok (.iload_n 3, 1) := by decide +kernel
theorem dX0_placeCells_52 : decode cX0_placeCells 52 = .ok (.lshl, 1) := by decide +kernel
theorem dX0_placeCells_53 : decode cX0_placeCells 53 = .ok (.iload_n 1, 1) := by decide +kernel
theorem dX0_placeCells_54 : decode cX0_placeCells 54 = .ok (.ifCond .le 17, 3) := by decide +kernel
theorem dX0_placeCells_57 : decode cX0_placeCells 57 = .ok (.aload_n 0, 1) := by decide +kernel
theorem dX0_placeCells_58 : decode cX0_placeCells 58 = .ok (.getfield 37, 3) := by decide +kernel
theorem dX0_placeCells_61 : decode cX0_placeCells 61 = .ok (.iload_n 3, 1) := by decide +kernel
theorem dX0_placeCells_62 : decode cX0_placeCells 62 = .ok (.aload_n 0, 1) := by decide +kernel
theorem dX0_placeCells_63 : decode cX0_placeCells 63 = .ok (.getfield 40, 3) := by decide +kernel
theorem dX0_placeCells_66 : decode cX0_placeCells 66 = .ok (.isub, 1) := by decide +kernel
theorem dX0_placeCells_67 : decode cX0_placeCells 67 = .ok (.laload, 1) := by decide +kernel
theorem dX0_placeCells_68 : decode cX0_placeCells 68 = .ok (.goto 4, 3) := by decide +kernel
theorem dX0_placeCells_71 : decode cX0_placeCells 71 = .ok (.lconst 0, 1) := by decide +kernel
theorem dX0_placeCells_72 : decode cX0_placeCells 72 = .ok (.lor, 1) := by decide +kernel
theorem dX0_placeCells_73 : decode cX0_placeCells 73 = .ok (.lastore, 1) := by decide +kernel
theorem dX0_placeCells_74 : decode cX0_placeCells 74 = .ok (.iinc 2 1, 3) := by decide +kernel
theorem dX0_placeCells_77 : decode cX0_placeCells 77 = .ok (.goto (-65), 3) := by decide +kernel
theorem dX0_placeCells_80 : decode cX0_placeCells 80 = .ok (.iinc 1 1, 3) := by decide +kernel
theorem dX0_placeCells_83 : decode cX0_placeCells 83 = .ok (.goto (-81), 3) := by decide +kernel
theorem dX0_placeCells_86 : decode cX0_placeCells 86 = .ok (.return_, 1) := by decide +kernel
theorem dX0_edgeAt_0 : decode cX0_edgeAt 0 = .ok (.iload_n 2, 1) := by decide +kernel
theorem dX0_edgeAt_1 : decode cX0_edgeAt 1 = .ok (.tableswitch 48 0 2 #[27, 29, 36], 27) := by decide +kernel
theorem dX0_edgeAt_28 : decode cX0_edgeAt 28 = .ok (.iload_n 1, 1) := by decide +kernel
theorem dX0_edgeAt_29 : decode cX0_edgeAt 29 = .ok (.ireturn, 1) := by decide +kernel
theorem dX0_edgeAt_30 : decode cX0_edgeAt 30 = .ok (.iload_n 1, 1) := by decide +kernel
theorem dX0_edgeAt_31 : decode cX0_edgeAt 31 = .ok (.aload_n 0, 1) := by decide +kernel
theorem dX0_edgeAt_32 : decode cX0_edgeAt 32 = .ok (.getfield 40, 3) := by decide +kernel
theorem dX0_edgeAt_35 : decode cX0_edgeAt 35 = .ok (.iadd, 1) := by decide +kernel
theorem dX0_edgeAt_36 : decode cX0_edgeAt 36 = .ok (.ireturn, 1) := by decide +kernel
theorem dX0_edgeAt_37 : decode cX0_edgeAt 37 = .ok (.aload_n 0, 1) := by decide +kernel
theorem dX0_edgeAt_38 : decode cX0_edgeAt 38 = .ok (.getfield 53, 3) := by decide +kernel
theorem dX0_edgeAt_41 : decode cX0_edgeAt 41 = .ok (.aload_n 0, 1) := by decide +kernel
theorem dX0_edgeAt_42 : decode cX0_edgeAt 42 = .ok (.getfield 34, 3) := by decide +kernel
theorem dX0_edgeAt_45 : decode cX0_edgeAt 45 = .ok (.iload_n 1, 1) := by decide +kernel
theorem dX0_edgeAt_46 : decode cX0_edgeAt 46 = .ok (.iaload, 1) := by decide +kernel
theorem dX0_edgeAt_47 : decode cX0_edgeAt 47 = .ok (.iadd, 1) := by decide +kernel
theorem dX0_edgeAt_48 : decode cX0_edgeAt 48 = .ok (.ireturn, 1) := by decide +kernel
theorem dX0_edgeAt_49 : decode cX0_edgeAt 49 = .ok (.aload_n 0, 1) := by decide +kernel
theorem dX0_edgeAt_50 : decode cX0_edgeAt 50 = .ok (.getfield 53, 3) := by decide +kernel
theorem dX0_edgeAt_53 : decode cX0_edgeAt 53 = .ok (.aload_n 0, 1) := by decide +kernel
theorem dX0_edgeAt_54 : decode cX0_edgeAt 54 = .ok (.getfield 34, 3) := by decide +kernel
theorem dX0_edgeAt_57 : decode cX0_edgeAt 57 = .ok (.iload_n 1, 1) := by decide +kernel
theorem dX0_edgeAt_58 : decode cX0_edgeAt 58 = .ok (.iaload, 1) := by decide +kernel
theorem dX0_edgeAt_59 : decode cX0_edgeAt 59 = .ok (.iadd, 1) := by decide +kernel
theorem dX0_edgeAt_60 : decode cX0_edgeAt 60 = .ok (.iconst 1, 1) := by decide +kernel
theorem dX0_edgeAt_61 : decode cX0_edgeAt 61 = .ok (.iadd, 1) := by decide +kernel
theorem dX0_edgeAt_62 : decode cX0_edgeAt 62 = .ok (.ireturn, 1) := by decide +kernel
theorem dX0_touches_0 : decode cX0_touches 0 = .ok (.lload_n 1, 1) := by decide +kernel
theorem dX0_touches_1 : decode cX0_touches 1 = .ok (.aload_n 0, 1) := by decide +kernel
theorem dX0_touches_2 : decode cX0_touches 2 = .ok (.getfield 19, 3) := by decide +kernel
theorem dX0_touches_5 : decode cX0_touches 5 = .ok (.iload_n 3, 1) := by decide +kernel
theorem dX0_touches_6 : decode cX0_touches 6 = .ok (.laload, 1) := by decide +kernel
theorem dX0_touches_7 : decode cX0_touches 7 = .ok (.land, 1) := by decide +kernel
theorem dX0_touches_8 : decode cX0_touches 8 = .ok (.lconst 0, 1) := by decide +kernel
theorem dX0_touches_9 : decode cX0_touches 9 = .ok (.lcmp, 1) := by decide +kernel
theorem dX0_touches_10 : decode cX0_touches 10 = .ok (.ifCond .eq 7, 3) := by decide +kernel
theorem dX0_touches_13 : decode cX0_touches 13 = .ok (.iconst 1, 1) := by decide +kernel
theorem dX0_touches_14 : decode cX0_touches 14 = .ok (.goto 4, 3) := by decide +kernel
theorem dX0_touches_17 : decode cX0_touches 17 = .ok (.iconst 0, 1) := by decide +kernel
theorem dX0_touches_18 : decode cX0_touches 18 = .ok (.ireturn, 1) := by decide +kernel
theorem dX0_hasFork_0 : decode cX0_hasFork 0 = .ok (.lload_n 1, 1) := by decide +kernel
theorem dX0_hasFork_1 : decode cX0_hasFork 1 = .ok (.aload_n 0, 1) := by decide +kernel
theorem dX0_hasFork_2 : decode cX0_hasFork 2 = .ok (.getfield 19, 3) := by decide +kernel
theorem dX0_hasFork_5 : decode cX0_hasFork 5 = .ok (.iload_n 3, 1) := by decide +kernel
theorem dX0_hasFork_6 : decode cX0_hasFork 6 = .ok (.laload, 1) := by decide +kernel
theorem dX0_hasFork_7 : decode cX0_hasFork 7 = .ok (.land, 1) := by decide +kernel
theorem dX0_hasFork_8 : decode cX0_hasFork 8 = .ok (.invokestatic 89, 3) := by decide +kernel
theorem dX0_hasFork_11 : decode cX0_hasFork 11 = .ok (.iconst 2, 1) := by decide +kernel
theorem dX0_hasFork_12 : decode cX0_hasFork 12 = .ok (.if_icmp .le 7, 3) := by decide +kernel
theorem dX0_hasFork_15 : decode cX0_hasFork 15 = .ok (.iconst 1, 1) := by decide +kernel
theorem dX0_hasFork_16 : decode cX0_hasFork 16 = .ok (.goto 4, 3) := by decide +kernel
theorem dX0_hasFork_19 : decode cX0_hasFork 19 = .ok (.iconst 0, 1) := by decide +kernel
theorem dX0_hasFork_20 : decode cX0_hasFork 20 = .ok (.ireturn, 1) := by decide +kernel
theorem dX0_joinsPointsOf_0 : decode cX0_joinsPointsOf 0 = .ok (.aload_n 0, 1) := by decide +kernel
theorem dX0_joinsPointsOf_1 : decode cX0_joinsPointsOf 1 = .ok (.lload_n 1, 1) := by decide +kernel
theorem dX0_joinsPointsOf_2 : decode cX0_joinsPointsOf 2 = .ok (.aload_n 0, 1) := by decide +kernel
theorem dX0_joinsPointsOf_3 : decode cX0_joinsPointsOf 3 = .ok (.getfield 22, 3) := by decide +kernel
theorem dX0_joinsPointsOf_6 : decode cX0_joinsPointsOf 6 = .ok (.iload_n 3, 1) := by decide +kernel
theorem dX0_joinsPointsOf_7 : decode cX0_joinsPointsOf 7 = .ok (.iaload, 1) := by decide +kernel
theorem dX0_joinsPointsOf_8 : decode cX0_joinsPointsOf 8 = .ok (.invokevirtual 95, 3) := by decide +kernel
theorem dX0_joinsPointsOf_11 : decode cX0_joinsPointsOf 11 = .ok (.ifCond .eq 21, 3) := by decide +kernel
theorem dX0_joinsPointsOf_14 : decode cX0_joinsPointsOf 14 = .ok (.aload_n 0, 1) := by decide +kernel
theorem dX0_joinsPointsOf_15 : decode cX0_joinsPointsOf 15 = .ok (.lload_n 1, 1) := by decide +kernel
theorem dX0_joinsPointsOf_16 : decode cX0_joinsPointsOf 16 = .ok (.aload_n 0, 1) := by decide +kernel
theorem dX0_joinsPointsOf_17 : decode cX0_joinsPointsOf 17 = .ok (.getfield 25, 3) := by decide +kernel
theorem dX0_joinsPointsOf_20 : decode cX0_joinsPointsOf 20 = .ok (.iload_n 3, 1) := by decide +kernel
theorem dX0_joinsPointsOf_21 : decode cX0_joinsPointsOf 21 = .ok (.iaload, 1) := by decide +kernel
theorem dX0_joinsPointsOf_22 : decode cX0_joinsPointsOf 22 = .ok (.invokevirtual 95, 3) := by decide +kernel
theorem dX0_joinsPointsOf_25 : decode cX0_joinsPointsOf 25 = .ok (.ifCond .eq 7, 3) := by decide +kernel
theorem dX0_joinsPointsOf_28 : decode cX0_joinsPointsOf 28 = .ok (.iconst 1, 1) := by decide +kernel
theorem dX0_joinsPointsOf_29 : decode cX0_joinsPointsOf 29 = .ok (.goto 4, 3) := by decide +kernel
theorem dX0_joinsPointsOf_32 : decode cX0_joinsPointsOf 32 = .ok (.iconst 0, 1) := by decide +kernel
theorem dX0_joinsPointsOf_33 : decode cX0_joinsPointsOf 33 = .ok (.ireturn, 1) := by decide +kernel
theorem dX0_firstWay_0 : decode cX0_firstWay 0 = .ok (.lload_n 1, 1) := by decide +kernel
theorem dX0_firstWay_1 : decode cX0_firstWay 1 = .ok (.lload_n 1, 1) := by decide +kernel
theorem dX0_firstWay_2 : decode cX0_firstWay 2 = .ok (.lneg, 1) := by decide +kernel
theorem dX0_firstWay_3 : decode cX0_firstWay 3 = .ok (.land, 1) := by decide +kernel
theorem dX0_firstWay_4 : decode cX0_firstWay 4 = .ok (.lstore_n 3, 1) := by decide +kernel
theorem dX0_firstWay_5 : decode cX0_firstWay 5 = .ok (.lconst 0, 1) := by decide +kernel
theorem dX0_firstWay_6 : decode cX0_firstWay 6 = .ok (.lstore 5, 2) := by decide +kernel
theorem dX0_firstWay_8 : decode cX0_firstWay 8 = .ok (.iconst 0, 1) := by decide +kernel
theorem dX0_firstWay_9 : decode cX0_firstWay 9 = .ok (.istore 7, 2) := by decide +kernel
theorem dX0_firstWay_11 : decode cX0_firstWay 11 = .ok (.iload 7, 2) := by decide +kernel
theorem dX0_firstWay_13 : decode cX0_firstWay 13 = .ok (.bipush 40, 2) := by decide +kernel
theorem dX0_firstWay_15 : decode cX0_firstWay 15 = .ok (.if_icmp .ge 63, 3) := by decide +kernel
theorem dX0_firstWay_18 : decode cX0_firstWay 18 = .ok (.lload_n 3, 1) := by decide +kernel
theorem dX0_firstWay_19 : decode cX0_firstWay 19 = .ok (.lload 5, 2) := by decide +kernel
theorem dX0_firstWay_21 : decode cX0_firstWay 21 = .ok (.lcmp, 1) := by decide +kernel
theorem dX0_firstWay_22 : decode cX0_firstWay 22 = .ok (.ifCond .eq 56, 3) := by decide +kernel
theorem dX0_firstWay_25 : decode cX0_firstWay 25 = .ok (.lload_n 3, 1) := by decide +kernel
theorem dX0_firstWay_26 : decode cX0_firstWay 26 = .ok (.lstore 5, 2) := by decide +kernel
theorem dX0_firstWay_28 : decode cX0_firstWay 28 = .ok (.iconst 0, 1) := by decide +kernel
theorem dX0_firstWay_29 : decode cX0_firstWay 29 = .ok (.istore 8, 2) := by decide +kernel
theorem dX0_firstWay_31 : decode cX0_firstWay 31 = .ok (.iload 8, 2) := by decide +kernel
theorem dX0_firstWay_33 : decode cX0_firstWay 33 = .ok (.aload_n 0, 1) := by decide +kernel
theorem dX0_firstWay_34 : decode cX0_firstWay 34 = .ok (.getfield 50, 3) := by decide +kernel
theorem dX0_firstWay_37 : decode cX0_firstWay 37 = .ok (.if_icmp .ge 35, 3) := by decide +kernel
theorem dX0_firstWay_40 : decode cX0_firstWay 40 = .ok (.lload_n 3, 1) := by decide +kernel
theorem dX0_firstWay_41 : decode cX0_firstWay 41 = .ok (.aload_n 0, 1) := by decide +kernel
theorem dX0_firstWay_42 : decode cX0_firstWay 42 = .ok (.getfield 19, 3) := by decide +kernel
theorem dX0_firstWay_45 : decode cX0_firstWay 45 = .ok (.iload 8, 2) := by decide +kernel
theorem dX0_firstWay_47 : decode cX0_firstWay 47 = .ok (.laload, 1) := by decide +kernel
theorem dX0_firstWay_48 : decode cX0_firstWay 48 = .ok (.land, 1) := by decide +kernel
theorem dX0_firstWay_49 : decode cX0_firstWay 49 = .ok (.lconst 0, 1) := by decide +kernel
theorem dX0_firstWay_50 : decode cX0_firstWay 50 = .ok (.lcmp, 1) := by decide +kernel
theorem dX0_firstWay_51 : decode cX0_firstWay 51 = .ok (.ifCond .eq 15, 3) := by decide +kernel
theorem dX0_firstWay_54 : decode cX0_firstWay 54 = .ok (.lload_n 3, 1) := by decide +kernel
theorem dX0_firstWay_55 : decode cX0_firstWay 55 = .ok (.lload_n 1, 1) := by decide +kernel
theorem dX0_firstWay_56 : decode cX0_firstWay 56 = .ok (.aload_n 0, 1) := by decide +kernel
theorem dX0_firstWay_57 : decode cX0_firstWay 57 = .ok (.getfield 19, 3) := by decide +kernel
theorem dX0_firstWay_60 : decode cX0_firstWay 60 = .ok (.iload 8, 2) := by decide +kernel
theorem dX0_firstWay_62 : decode cX0_firstWay 62 = .ok (.laload, 1) := by decide +kernel
theorem dX0_firstWay_63 : decode cX0_firstWay 63 = .ok (.land, 1) := by decide +kernel
theorem dX0_firstWay_64 : decode cX0_firstWay 64 = .ok (.lor, 1) := by decide +kernel
theorem dX0_firstWay_65 : decode cX0_firstWay 65 = .ok (.lstore_n 3, 1) := by decide +kernel
theorem dX0_firstWay_66 : decode cX0_firstWay 66 = .ok (.iinc 8 1, 3) := by decide +kernel
theorem dX0_firstWay_69 : decode cX0_firstWay 69 = .ok (.goto (-38), 3) := by decide +kernel
theorem dX0_firstWay_72 : decode cX0_firstWay 72 = .ok (.iinc 7 1, 3) := by decide +kernel
theorem dX0_firstWay_75 : decode cX0_firstWay 75 = .ok (.goto (-64), 3) := by decide +kernel
theorem dX0_firstWay_78 : decode cX0_firstWay 78 = .ok (.lload_n 3, 1) := by decide +kernel
theorem dX0_firstWay_79 : decode cX0_firstWay 79 = .ok (.lreturn, 1) := by decide +kernel
theorem dX0_isLoop_0 : decode cX0_isLoop 0 = .ok (.iconst 0, 1) := by decide +kernel
theorem dX0_isLoop_1 : decode cX0_isLoop 1 = .ok (.istore_n 3, 1) := by decide +kernel
theorem dX0_isLoop_2 : decode cX0_isLoop 2 = .ok (.iload_n 3, 1) := by decide +kernel
theorem dX0_isLoop_3 : decode cX0_isLoop 3 = .ok (.aload_n 0, 1) := by decide +kernel
theorem dX0_isLoop_4 : decode cX0_isLoop 4 = .ok (.getfield 50, 3) := by decide +kernel
theorem dX0_isLoop_7 : decode cX0_isLoop 7 = .ok (.if_icmp .ge 35, 3) := by decide +kernel
theorem dX0_isLoop_10 : decode cX0_isLoop 10 = .ok (.lload_n 1, 1) := by decide +kernel
theorem dX0_isLoop_11 : decode cX0_isLoop 11 = .ok (.aload_n 0, 1) := by decide +kernel
theorem dX0_isLoop_12 : decode cX0_isLoop 12 = .ok (.getfield 19, 3) := by decide +kernel
theorem dX0_isLoop_15 : decode cX0_isLoop 15 = .ok (.iload_n 3, 1) := by decide +kernel
theorem dX0_isLoop_16 : decode cX0_isLoop 16 = .ok (.laload, 1) := by decide +kernel
theorem dX0_isLoop_17 : decode cX0_isLoop 17 = .ok (.land, 1) := by decide +kernel
theorem dX0_isLoop_18 : decode cX0_isLoop 18 = .ok (.invokestatic 89, 3) := by decide +kernel
theorem dX0_isLoop_21 : decode cX0_isLoop 21 = .ok (.istore 4, 2) := by decide +kernel
theorem dX0_isLoop_23 : decode cX0_isLoop 23 = .ok (.iload 4, 2) := by decide +kernel
theorem dX0_isLoop_25 : decode cX0_isLoop 25 = .ok (.ifCond .eq 11, 3) := by decide +kernel
theorem dX0_isLoop_28 : decode cX0_isLoop 28 = .ok (.iload 4, 2) := by decide +kernel
theorem dX0_isLoop_30 : decode cX0_isLoop 30 = .ok (.iconst 2, 1) := by decide +kernel
theorem dX0_isLoop_31 : decode cX0_isLoop 31 = .ok (.if_icmp .eq 5, 3) := by decide +kernel
theorem dX0_isLoop_34 : decode cX0_isLoop 34 = .ok (.iconst 0, 1) := by decide +kernel
theorem dX0_isLoop_35 : decode cX0_isLoop 35 = .ok (.ireturn, 1) := by decide +kernel
theorem dX0_isLoop_36 : decode cX0_isLoop 36 = .ok (.iinc 3 1, 3) := by decide +kernel
theorem dX0_isLoop_39 : decode cX0_isLoop 39 = .ok (.goto (-37), 3) := by decide +kernel
theorem dX0_isLoop_42 : decode cX0_isLoop 42 = .ok (.lload_n 1, 1) := by decide +kernel
theorem dX0_isLoop_43 : decode cX0_isLoop 43 = .ok (.lconst 0, 1) := by decide +kernel
theorem dX0_isLoop_44 : decode cX0_isLoop 44 = .ok (.lcmp, 1) := by decide +kernel
theorem dX0_isLoop_45 : decode cX0_isLoop 45 = .ok (.ifCond .eq 17, 3) := by decide +kernel
theorem dX0_isLoop_48 : decode cX0_isLoop 48 = .ok (.aload_n 0, 1) := by decide +kernel
theorem dX0_isLoop_49 : decode cX0_isLoop 49 = .ok (.lload_n 1, 1) := by decide +kernel
theorem dX0_isLoop_50 : decode cX0_isLoop 50 = .ok (.invokevirtual 99, 3) := by decide +kernel
theorem dX0_isLoop_53 : decode cX0_isLoop 53 = .ok (.lload_n 1, 1) := by decide +kernel
theorem dX0_isLoop_54 : decode cX0_isLoop 54 = .ok (.lcmp, 1) := by decide +kernel
theorem dX0_isLoop_55 : decode cX0_isLoop 55 = .ok (.ifCond .ne 7, 3) := by decide +kernel
theorem dX0_isLoop_58 : decode cX0_isLoop 58 = .ok (.iconst 1, 1) := by decide +kernel
theorem dX0_isLoop_59 : decode cX0_isLoop 59 = .ok (.goto 4, 3) := by decide +kernel
theorem dX0_isLoop_62 : decode cX0_isLoop 62 = .ok (.iconst 0, 1) := by decide +kernel
theorem dX0_isLoop_63 : decode cX0_isLoop 63 = .ok (.ireturn, 1) := by decide +kernel
theorem dX0_numbersAreRight_0 : decode cX0_numbersAreRight 0 = .ok (.iconst 0, 1) := by decide +kernel
theorem dX0_numbersAreRight_1 : decode cX0_numbersAreRight 1 = .ok (.istore 4, 2) := by decide +kernel
theorem dX0_numbersAreRight_3 : decode cX0_numbersAreRight 3 = .ok (.iload 4, 2) := by decide +kernel
theorem dX0_numbersAreRight_5 : decode cX0_numbersAreRight 5 = .ok (.aload_n 0, 1) := by decide +kernel
theorem dX0_numbersAreRight_6 : decode cX0_numbersAreRight 6 = .ok (.getfield 47, 3) := by decide +kernel
theorem dX0_numbersAreRight_9 : decode cX0_numbersAreRight 9 = .ok (.if_icmp .ge 50, 3) := by decide +kernel
theorem dX0_numbersAreRight_12 : decode cX0_numbersAreRight 12 = .ok (.iload 4, 2) := by decide +kernel
theorem dX0_numbersAreRight_14 : decode cX0_numbersAreRight 14 = .ok (.iload_n 3, 1) := by decide +kernel
theorem dX0_numbersAreRight_15 : decode cX0_numbersAreRight 15 = .ok (.if_icmp .eq 38, 3) := by decide +kernel
theorem dX0_numbersAreRight_18 : decode cX0_numbersAreRight 18 = .ok (.aload_n 0, 1) := by decide +kernel
theorem dX0_numbersAreRight_19 : decode cX0_numbersAreRight 19 = .ok (.getfield 9, 3) := by decide +kernel
theorem dX0_numbersAreRight_22 : decode cX0_numbersAreRight 22 = .ok (.iload 4, 2) := by decide +kernel
theorem dX0_numbersAreRight_24 : decode cX0_numbersAreRight 24 = .ok (.iaload, 1) := by decide +kernel
theorem dX0_numbersAreRight_25 : decode cX0_numbersAreRight 25 = .ok (.iconst (-1), 1) := by decide +kernel
theorem dX0_numbersAreRight_26 : decode cX0_numbersAreRight 26 = .ok (.if_icmp .eq 27, 3) := by decide +kernel
theorem dX0_numbersAreRight_29 : decode cX0_numbersAreRight 29 = .ok (.lload_n 1, 1) := by decide +kernel
theorem dX0_numbersAreRight_30 : decode cX0_numbersAreRight 30 = .ok (.aload_n 0, 1) := by decide +kernel
theorem dX0_numbersAreRight_31 : decode cX0_numbersAreRight 31 = .ok (.getfield 15, 3) := by decide +kernel
theorem dX0_numbersAreRight_34 : decode cX0_numbersAreRight 34 = .ok (.iload 4, 2) := by decide +kernel
theorem dX0_numbersAreRight_36 : decode cX0_numbersAreRight 36 = .ok (.laload, 1) := by decide +kernel
theorem dX0_numbersAreRight_37 : decode cX0_numbersAreRight 37 = .ok (.land, 1) := by decide +kernel
theorem dX0_numbersAreRight_38 : decode cX0_numbersAreRight 38 = .ok (.invokestatic 89, 3) := by decide +kernel
theorem dX0_numbersAreRight_41 : decode cX0_numbersAreRight 41 = .ok (.aload_n 0, 1) := by decide +kernel
theorem dX0_numbersAreRight_42 : decode cX0_numbersAreRight 42 = .ok (.getfield 9, 3) := by decide +kernel
theorem dX0_numbersAreRight_45 : decode cX0_numbersAreRight 45 = .ok (.iload 4, 2) := by decide +kernel
theorem dX0_numbersAreRight_47 : decode cX0_numbersAreRight 47 = .ok (.iaload, 1) := by decide +kernel
theorem dX0_numbersAreRight_48 : decode cX0_numbersAreRight 48 = .ok (.if_icmp .eq 5, 3) := by decide +kernel
theorem dX0_numbersAreRight_51 : decode cX0_numbersAreRight 51 = .ok (.iconst 0, 1) := by decide +kernel
theorem dX0_numbersAreRight_52 : decode cX0_numbersAreRight 52 = .ok (.ireturn, 1) := by decide +kernel
theorem dX0_numbersAreRight_53 : decode cX0_numbersAreRight 53 = .ok (.iinc 4 1, 3) := by decide +kernel
theorem dX0_numbersAreRight_56 : decode cX0_numbersAreRight 56 = .ok (.goto (-53), 3) := by decide +kernel
theorem dX0_numbersAreRight_59 : decode cX0_numbersAreRight 59 = .ok (.iconst 1, 1) := by decide +kernel
theorem dX0_numbersAreRight_60 : decode cX0_numbersAreRight 60 = .ok (.ireturn, 1) := by decide +kernel
theorem dX1_init_0 : decode cX1_init 0 = .ok (.aload_n 0, 1) := by decide +kernel
theorem dX1_init_1 : decode cX1_init 1 = .ok (.invokespecial 3, 3) := by decide +kernel
theorem dX1_init_4 : decode cX1_init 4 = .ok (.aload_n 0, 1) := by decide +kernel
theorem dX1_init_5 : decode cX1_init 5 = .ok (.bipush 17, 2) := by decide +kernel
theorem dX1_init_7 : decode cX1_init 7 = .ok (.newarray .int, 2) := by decide +kernel
theorem dX1_init_9 : decode cX1_init 9 = .ok (.putfield 9, 3) := by decide +kernel
theorem dX1_init_12 : decode cX1_init 12 = .ok (.aload_n 0, 1) := by decide +kernel
theorem dX1_init_13 : decode cX1_init 13 = .ok (.bipush 17, 2) := by decide +kernel
theorem dX1_init_15 : decode cX1_init 15 = .ok (.newarray .int, 2) := by decide +kernel
theorem dX1_init_17 : decode cX1_init 17 = .ok (.putfield 15, 3) := by decide +kernel
theorem dX1_init_20 : decode cX1_init 20 = .ok (.return_, 1) := by decide +kernel
theorem dX1_clear_0 : decode cX1_clear 0 = .ok (.aload_n 0, 1) := by decide +kernel
theorem dX1_clear_1 : decode cX1_clear 1 = .ok (.iload_n 1, 1) := by decide +kernel
theorem dX1_clear_2 : decode cX1_clear 2 = .ok (.putfield 18, 3) := by decide +kernel
theorem dX1_clear_5 : decode cX1_clear 5 = .ok (.aload_n 0, 1) := by decide +kernel
theorem dX1_clear_6 : decode cX1_clear 6 = .ok (.iconst 0, 1) := by decide +kernel
theorem dX1_clear_7 : decode cX1_clear 7 = .ok (.putfield 22, 3) := by decide +kernel
theorem dX1_clear_10 : decode cX1_clear 10 = .ok (.iconst 0, 1) := by decide +kernel
theorem dX1_clear_11 : decode cX1_clear 11 = .ok (.istore_n 2, 1) := by decide +kernel
theorem dX1_clear_12 : decode cX1_clear 12 = .ok (.iload_n 2, 1) := by decide +kernel
theorem dX1_clear_13 : decode cX1_clear 13 = .ok (.aload_n 0, 1) := by decide +kernel
theorem dX1_clear_14 : decode cX1_clear 14 = .ok (.getfield 18, 3) := by decide +kernel
theorem dX1_clear_17 : decode cX1_clear 17 = .ok (.if_icmp .ge 23, 3) := by decide +kernel
theorem dX1_clear_20 : decode cX1_clear 20 = .ok (.aload_n 0, 1) := by decide +kernel
theorem dX1_clear_21 : decode cX1_clear 21 = .ok (.getfield 9, 3) := by decide +kernel
theorem dX1_clear_24 : decode cX1_clear 24 = .ok (.iload_n 2, 1) := by decide +kernel
theorem dX1_clear_25 : decode cX1_clear 25 = .ok (.iload_n 2, 1) := by decide +kernel
theorem dX1_clear_26 : decode cX1_clear 26 = .ok (.iastore, 1) := by decide +kernel
theorem dX1_clear_27 : decode cX1_clear 27 = .ok (.aload_n 0, 1) := by decide +kernel
theorem dX1_clear_28 : decode cX1_clear 28 = .ok (.getfield 15, 3) := by decide +kernel
theorem dX1_clear_31 : decode cX1_clear 31 = .ok (.iload_n 2, 1) := by decide +kernel
theorem dX1_clear_32 : decode cX1_clear 32 = .ok (.iconst 0, 1) := by decide +kernel
theorem dX1_clear_33 : decode cX1_clear 33 = .ok (.iastore, 1) := by decide +kernel
theorem dX1_clear_34 : decode cX1_clear 34 = .ok (.iinc 2 1, 3) := by decide +kernel
theorem dX1_clear_37 : decode cX1_clear 37 = .ok (.goto (-25), 3) := by decide +kernel
theorem dX1_clear_40 : decode cX1_clear 40 = .ok (.return_, 1) := by decide +kernel
theorem dX1_areJoined_0 : decode cX1_areJoined 0 = .ok (.aload_n 0, 1) := by decide +kernel
theorem dX1_areJoined_1 : decode cX1_areJoined 1 = .ok (.getfield 9, 3) := by decide +kernel
theorem dX1_areJoined_4 : decode cX1_areJoined 4 = .ok (.iload_n 1, 1) := by decide +kernel
theorem dX1_areJoined_5 : decode cX1_areJoined 5 = .ok (.iaload, 1) := by decide +kernel
theorem dX1_areJoined_6 : decode cX1_areJoined 6 = .ok (.aload_n 0, 1) := by decide +kernel
theorem dX1_areJoined_7 : decode cX1_areJoined 7 = .ok (.getfield 9, 3) := by decide +kernel
theorem dX1_areJoined_10 : decode cX1_areJoined 10 = .ok (.iload_n 2, 1) := by decide +kernel
theorem dX1_areJoined_11 : decode cX1_areJoined 11 = .ok (.iaload, 1) := by decide +kernel
theorem dX1_areJoined_12 : decode cX1_areJoined 12 = .ok (.if_icmp .ne 7, 3) := by decide +kernel
theorem dX1_areJoined_15 : decode cX1_areJoined 15 = .ok (.iconst 1, 1) := by decide +kernel
theorem dX1_areJoined_16 : decode cX1_areJoined 16 = .ok (.goto 4, 3) := by decide +kernel
theorem dX1_areJoined_19 : decode cX1_areJoined 19 = .ok (.iconst 0, 1) := by decide +kernel
theorem dX1_areJoined_20 : decode cX1_areJoined 20 = .ok (.ireturn, 1) := by decide +kernel
theorem dX1_differ_0 : decode cX1_differ 0 = .ok (.aload_n 0, 1) := by decide +kernel
theorem dX1_differ_1 : decode cX1_differ 1 = .ok (.getfield 15, 3) := by decide +kernel
theorem dX1_differ_4 : decode cX1_differ 4 = .ok (.iload_n 1, 1) := by decide +kernel
theorem dX1_differ_5 : decode cX1_differ 5 = .ok (.iaload, 1) := by decide +kernel
theorem dX1_differ_6 : decode cX1_differ 6 = .ok (.aload_n 0, 1) := by decide +kernel
theorem dX1_differ_7 : decode cX1_differ 7 = .ok (.getfield 15, 3) := by decide +kernel
theorem dX1_differ_10 : decode cX1_differ 10 = .ok (.iload_n 2, 1) := by decide +kernel
theorem dX1_differ_11 : decode cX1_differ 11 = .ok (.iaload, 1) := by decide +kernel
theorem dX1_differ_12 : decode cX1_differ 12 = .ok (.if_icmp .eq 7, 3) := by decide +kernel
theorem dX1_differ_15 : decode cX1_differ 15 = .ok (.iconst 1, 1) := by decide +kernel
theorem dX1_differ_16 : decode cX1_differ 16 = .ok (.goto 4, 3) := by decide +kernel
theorem dX1_differ_19 : decode cX1_differ 19 = .ok (.iconst 0, 1) := by decide +kernel
theorem dX1_differ_20 : decode cX1_differ 20 = .ok (.ireturn, 1) := by decide +kernel
theorem dX1_join_0 : decode cX1_join 0 = .ok (.aload_n 0, 1) := by decide +kernel
theorem dX1_join_1 : decode cX1_join 1 = .ok (.iload_n 1, 1) := by decide +kernel
theorem dX1_join_2 : decode cX1_join 2 = .ok (.iload_n 2, 1) := by decide +kernel
theorem dX1_join_3 : decode cX1_join 3 = .ok (.invokevirtual 26, 3) := by decide +kernel
theorem dX1_join_6 : decode cX1_join 6 = .ok (.ifCond .eq 30, 3) := by decide +kernel
theorem dX1_join_9 : decode cX1_join 9 = .ok (.aload_n 0, 1) := by decide +kernel
theorem dX1_join_10 : decode cX1_join 10 = .ok (.aload_n 0, 1) := by decide +kernel
theorem dX1_join_11 : decode cX1_join 11 = .ok (.getfield 22, 3) := by decide +kernel
theorem dX1_join_14 : decode cX1_join 14 = .ok (.ifCond .ne 13, 3) := by decide +kernel
theorem dX1_join_17 : decode cX1_join 17 = .ok (.aload_n 0, 1) := by decide +kernel
theorem dX1_join_18 : decode cX1_join 18 = .ok (.iload_n 1, 1) := by decide +kernel
theorem dX1_join_19 : decode cX1_join 19 = .ok (.iload_n 2, 1) := by decide +kernel
theorem dX1_join_20 : decode cX1_join 20 = .ok (.invokevirtual 30, 3) := by decide +kernel
theorem dX1_join_23 : decode cX1_join 23 = .ok (.iload_n 3, 1) := by decide +kernel
theorem dX1_join_24 : decode cX1_join 24 = .ok (.if_icmp .eq 7, 3) := by decide +kernel
theorem dX1_join_27 : decode cX1_join 27 = .ok (.iconst 1, 1) := by decide +kernel
theorem dX1_join_28 : decode cX1_join 28 = .ok (.goto 4, 3) := by decide +kernel
theorem dX1_join_31 : decode cX1_join 31 = .ok (.iconst 0, 1) := by decide +kernel
theorem dX1_join_32 : decode cX1_join 32 = .ok (.putfield 22, 3) := by decide +kernel
theorem dX1_join_35 : decode cX1_join 35 = .ok (.return_, 1) := by decide +kernel
theorem dX1_join_36 : decode cX1_join 36 = .ok (.aload_n 0, 1) := by decide +kernel
theorem dX1_join_37 : decode cX1_join 37 = .ok (.iload_n 1, 1) := by decide +kernel
theorem dX1_join_38 : decode cX1_join 38 = .ok (.iload_n 2, 1) := by decide +kernel
theorem dX1_join_39 : decode cX1_join 39 = .ok (.invokevirtual 30, 3) := by decide +kernel
theorem dX1_join_42 : decode cX1_join 42 = .ok (.iload_n 3, 1) := by decide +kernel
theorem dX1_join_43 : decode cX1_join 43 = .ok (.if_icmp .ne 7, 3) := by decide +kernel
theorem dX1_join_46 : decode cX1_join 46 = .ok (.iconst 0, 1) := by decide +kernel
theorem dX1_join_47 : decode cX1_join 47 = .ok (.goto 4, 3) := by decide +kernel
theorem dX1_join_50 : decode cX1_join 50 = .ok (.iconst 1, 1) := by decide +kernel
theorem dX1_join_51 : decode cX1_join 51 = .ok (.istore 4, 2) := by decide +kernel
theorem dX1_join_53 : decode cX1_join 53 = .ok (.aload_n 0, 1) := by decide +kernel
theorem dX1_join_54 : decode cX1_join 54 = .ok (.getfield 9, 3) := by decide +kernel
theorem dX1_join_57 : decode cX1_join 57 = .ok (.iload_n 2, 1) := by decide +kernel
theorem dX1_join_58 : decode cX1_join 58 = .ok (.iaload, 1) := by decide +kernel
theorem dX1_join_59 : decode cX1_join 59 = .ok (.istore 5, 2) := by decide +kernel
theorem dX1_join_61 : decode cX1_join 61 = .ok (.iconst 0, 1) := by decide +kernel
theorem dX1_join_62 : decode cX1_join 62 = .ok (.istore 6, 2) := by decide +kernel
theorem dX1_join_64 : decode cX1_join 64 = .ok (.iload 6, 2) := by decide +kernel
theorem dX1_join_66 : decode cX1_join 66 = .ok (.aload_n 0, 1) := by decide +kernel
theorem dX1_join_67 : decode cX1_join 67 = .ok (.getfield 18, 3) := by decide +kernel
theorem dX1_join_70 : decode cX1_join 70 = .ok (.if_icmp .ge 46, 3) := by decide +kernel
theorem dX1_join_73 : decode cX1_join 73 = .ok (.aload_n 0, 1) := by decide +kernel
theorem dX1_join_74 : decode cX1_join 74 = .ok (.getfield 9, 3) := by decide +kernel
theorem dX1_join_77 : decode cX1_join 77 = .ok (.iload 6, 2) := by decide +kernel
theorem dX1_join_79 : decode cX1_join 79 = .ok (.iaload, 1) := by decide +kernel
theorem dX1_join_80 : decode cX1_join 80 = .ok (.iload 5, 2) := by decide +kernel
theorem dX1_join_82 : decode cX1_join 82 = .ok (.if_icmp .ne 28, 3) := by decide +kernel
theorem dX1_join_85 : decode cX1_join 85 = .ok (.aload_n 0, 1) := by decide +kernel
theorem dX1_join_86 : decode cX1_join 86 = .ok (.getfield 9, 3) := by decide +kernel
theorem dX1_join_89 : decode cX1_join 89 = .ok (.iload 6, 2) := by decide +kernel
theorem dX1_join_91 : decode cX1_join 91 = .ok (.aload_n 0, 1) := by decide +kernel
theorem dX1_join_92 : decode cX1_join 92 = .ok (.getfield 9, 3) := by decide +kernel
theorem dX1_join_95 : decode cX1_join 95 = .ok (.iload_n 1, 1) := by decide +kernel
theorem dX1_join_96 : decode cX1_join 96 = .ok (.iaload, 1) := by decide +kernel
theorem dX1_join_97 : decode cX1_join 97 = .ok (.iastore, 1) := by decide +kernel
theorem dX1_join_98 : decode cX1_join 98 = .ok (.aload_n 0, 1) := by decide +kernel
theorem dX1_join_99 : decode cX1_join 99 = .ok (.getfield 15, 3) := by decide +kernel
theorem dX1_join_102 : decode cX1_join 102 = .ok (.iload 6, 2) := by decide +kernel
theorem dX1_join_104 : decode cX1_join 104 = .ok (.dup2, 1) := by decide +kernel
theorem dX1_join_105 : decode cX1_join 105 = .ok (.iaload, 1) := by decide +kernel
theorem dX1_join_106 : decode cX1_join 106 = .ok (.iload 4, 2) := by decide +kernel
theorem dX1_join_108 : decode cX1_join 108 = .ok (.ixor, 1) := by decide +kernel
theorem dX1_join_109 : decode cX1_join 109 = .ok (.iastore, 1) := by decide +kernel
theorem dX1_join_110 : decode cX1_join 110 = .ok (.iinc 6 1, 3) := by decide +kernel
theorem dX1_join_113 : decode cX1_join 113 = .ok (.goto (-49), 3) := by decide +kernel
theorem dX1_join_116 : decode cX1_join 116 = .ok (.return_, 1) := by decide +kernel
theorem dX2_init_0 : decode cX2_init 0 = .ok (.aload_n 0, 1) := by decide +kernel
theorem dX2_init_1 : decode cX2_init 1 = .ok (.invokespecial 3, 3) := by decide +kernel
theorem dX2_init_4 : decode cX2_init 4 = .ok (.aload_n 0, 1) := by decide +kernel
theorem dX2_init_5 : decode cX2_init 5 = .ok (.bipush 40, 2) := by decide +kernel
theorem dX2_init_7 : decode cX2_init 7 = .ok (.newarray .int, 2) := by decide +kernel
theorem dX2_init_9 : decode cX2_init 9 = .ok (.putfield 9, 3) := by decide +kernel
theorem dX2_init_12 : decode cX2_init 12 = .ok (.aload_n 0, 1) := by decide +kernel
theorem dX2_init_13 : decode cX2_init 13 = .ok (.bipush 40, 2) := by decide +kernel
theorem dX2_init_15 : decode cX2_init 15 = .ok (.newarray .int, 2) := by decide +kernel
theorem dX2_init_17 : decode cX2_init 17 = .ok (.putfield 15, 3) := by decide +kernel
theorem dX2_init_20 : decode cX2_init 20 = .ok (.aload_n 0, 1) := by decide +kernel
theorem dX2_init_21 : decode cX2_init 21 = .ok (.aload_n 1, 1) := by decide +kernel
theorem dX2_init_22 : decode cX2_init 22 = .ok (.putfield 18, 3) := by decide +kernel
theorem dX2_init_25 : decode cX2_init 25 = .ok (.aload_n 0, 1) := by decide +kernel
theorem dX2_init_26 : decode cX2_init 26 = .ok (.aload_n 2, 1) := by decide +kernel
theorem dX2_init_27 : decode cX2_init 27 = .ok (.putfield 22, 3) := by decide +kernel
theorem dX2_init_30 : decode cX2_init 30 = .ok (.return_, 1) := by decide +kernel
theorem dX2_run_0 : decode cX2_run 0 = .ok (.aload_n 0, 1) := by decide +kernel
theorem dX2_run_1 : decode cX2_run 1 = .ok (.lload_n 1, 1) := by decide +kernel
theorem dX2_run_2 : decode cX2_run 2 = .ok (.lload_n 3, 1) := by decide +kernel
theorem dX2_run_3 : decode cX2_run 3 = .ok (.invokevirtual 26, 3) := by decide +kernel
theorem dX2_run_6 : decode cX2_run 6 = .ok (.iconst 1, 1) := by decide +kernel
theorem dX2_run_7 : decode cX2_run 7 = .ok (.istore 5, 2) := by decide +kernel
theorem dX2_run_9 : decode cX2_run 9 = .ok (.iconst 0, 1) := by decide +kernel
theorem dX2_run_10 : decode cX2_run 10 = .ok (.istore 6, 2) := by decide +kernel
theorem dX2_run_12 : decode cX2_run 12 = .ok (.iload 6, 2) := by decide +kernel
theorem dX2_run_14 : decode cX2_run 14 = .ok (.bipush 40, 2) := by decide +kernel
theorem dX2_run_16 : decode cX2_run 16 = .ok (.if_icmp .gt 20, 3) := by decide +kernel
theorem dX2_run_19 : decode cX2_run 19 = .ok (.iload 5, 2) := by decide +kernel
theorem dX2_run_21 : decode cX2_run 21 = .ok (.ifCond .eq 15, 3) := by decide +kernel
theorem dX2_run_24 : decode cX2_run 24 = .ok (.aload_n 0, 1) := by decide +kernel
theorem dX2_run_25 : decode cX2_run 25 = .ok (.invokevirtual 30, 3) := by decide +kernel
theorem dX2_run_28 : decode cX2_run 28 = .ok (.istore 5, 2) := by decide +kernel
theorem dX2_run_30 : decode cX2_run 30 = .ok (.iinc 6 1, 3) := by decide +kernel
theorem dX2_run_33 : decode cX2_run 33 = .ok (.goto (-21), 3) := by decide +kernel
theorem dX2_run_36 : decode cX2_run 36 = .ok (.return_, 1) := by decide +kernel
theorem dX2_begin_0 : decode cX2_begin 0 = .ok (.aload_n 0, 1) := by decide +kernel
theorem dX2_begin_1 : decode cX2_begin 1 = .ok (.lload_n 1, 1) := by decide +kernel
theorem dX2_begin_2 : decode cX2_begin 2 = .ok (.putfield 34, 3) := by decide +kernel
theorem dX2_begin_5 : decode cX2_begin 5 = .ok (.aload_n 0, 1) := by decide +kernel
theorem dX2_begin_6 : decode cX2_begin 6 = .ok (.lload_n 3, 1) := by decide +kernel
theorem dX2_begin_7 : decode cX2_begin 7 = .ok (.putfield 38, 3) := by decide +kernel
theorem dX2_begin_10 : decode cX2_begin 10 = .ok (.aload_n 0, 1) := by decide +kernel
theorem dX2_begin_11 : decode cX2_begin 11 = .ok (.iconst 0, 1) := by decide +kernel
theorem dX2_begin_12 : decode cX2_begin 12 = .ok (.putfield 41, 3) := by decide +kernel
theorem dX2_begin_15 : decode cX2_begin 15 = .ok (.aload_n 0, 1) := by decide +kernel
theorem dX2_begin_16 : decode cX2_begin 16 = .ok (.iconst 0, 1) := by decide +kernel
theorem dX2_begin_17 : decode cX2_begin 17 = .ok (.putfield 45, 3) := by decide +kernel
theorem dX2_begin_20 : decode cX2_begin 20 = .ok (.iconst 0, 1) := by decide +kernel
theorem dX2_begin_21 : decode cX2_begin 21 = .ok (.istore 5, 2) := by decide +kernel
theorem dX2_begin_23 : decode cX2_begin 23 = .ok (.iload 5, 2) := by decide +kernel
theorem dX2_begin_25 : decode cX2_begin 25 = .ok (.aload_n 0, 1) := by decide +kernel
theorem dX2_begin_26 : decode cX2_begin 26 = .ok (.getfield 18, 3) := by decide +kernel
theorem dX2_begin_29 : decode cX2_begin 29 = .ok (.getfield 48, 3) := by decide +kernel
theorem dX2_begin_32 : decode cX2_begin 32 = .ok (.if_icmp .ge 46, 3) := by decide +kernel
theorem dX2_begin_35 : decode cX2_begin 35 = .ok (.aload_n 0, 1) := by decide +kernel
theorem dX2_begin_36 : decode cX2_begin 36 = .ok (.getfield 9, 3) := by decide +kernel
theorem dX2_begin_39 : decode cX2_begin 39 = .ok (.iload 5, 2) := by decide +kernel
theorem dX2_begin_41 : decode cX2_begin 41 = .ok (.aload_n 0, 1) := by decide +kernel
theorem dX2_begin_42 : decode cX2_begin 42 = .ok (.getfield 34, 3) := by decide +kernel
theorem dX2_begin_45 : decode cX2_begin 45 = .ok (.aload_n 0, 1) := by decide +kernel
theorem dX2_begin_46 : decode cX2_begin 46 = .ok (.getfield 38, 3) := by decide +kernel
theorem dX2_begin_49 : decode cX2_begin 49 = .ok (.lor, 1) := by decide +kernel
theorem dX2_begin_50 : decode cX2_begin 50 = .ok (.iload 5, 2) := by decide +kernel
theorem dX2_begin_52 : decode cX2_begin 52 = .ok (.invokestatic 53, 3) := by decide +kernel
theorem dX2_begin_55 : decode cX2_begin 55 = .ok (.ifCond .eq 7, 3) := by decide +kernel
theorem dX2_begin_58 : decode cX2_begin 58 = .ok (.iconst 0, 1) := by decide +kernel
theorem dX2_begin_59 : decode cX2_begin 59 = .ok (.goto 4, 3) := by decide +kernel
theorem dX2_begin_62 : decode cX2_begin 62 = .ok (.iconst (-1), 1) := by decide +kernel
theorem dX2_begin_63 : decode cX2_begin 63 = .ok (.iastore, 1) := by decide +kernel
theorem dX2_begin_64 : decode cX2_begin 64 = .ok (.aload_n 0, 1) := by decide +kernel
theorem dX2_begin_65 : decode cX2_begin 65 = .ok (.getfield 15, 3) := by decide +kernel
theorem dX2_begin_68 : decode cX2_begin 68 = .ok (.iload 5, 2) := by decide +kernel
theorem dX2_begin_70 : decode cX2_begin 70 = .ok (.iconst (-1), 1) := by decide +kernel
theorem dX2_begin_71 : decode cX2_begin 71 = .ok (.iastore, 1) := by decide +kernel
theorem dX2_begin_72 : decode cX2_begin 72 = .ok (.iinc 5 1, 3) := by decide +kernel
theorem dX2_begin_75 : decode cX2_begin 75 = .ok (.goto (-52), 3) := by decide +kernel
theorem dX2_begin_78 : decode cX2_begin 78 = .ok (.return_, 1) := by decide +kernel
theorem dX2_playRound_0 : decode cX2_playRound 0 = .ok (.aload_n 0, 1) := by decide +kernel
theorem dX2_playRound_1 : decode cX2_playRound 1 = .ok (.getfield 22, 3) := by decide +kernel
theorem dX2_playRound_4 : decode cX2_playRound 4 = .ok (.aload_n 0, 1) := by decide +kernel
theorem dX2_playRound_5 : decode cX2_playRound 5 = .ok (.getfield 34, 3) := by decide +kernel
theorem dX2_playRound_8 : decode cX2_playRound 8 = .ok (.aload_n 0, 1) := by decide +kernel
theorem dX2_playRound_9 : decode cX2_playRound 9 = .ok (.getfield 38, 3) := by decide +kernel
theorem dX2_playRound_12 : decode cX2_playRound 12 = .ok (.invokevirtual 57, 3) := by decide +kernel
theorem dX2_playRound_15 : decode cX2_playRound 15 = .ok (.aload_n 0, 1) := by decide +kernel
theorem dX2_playRound_16 : decode cX2_playRound 16 = .ok (.aload_n 0, 1) := by decide +kernel
theorem dX2_playRound_17 : decode cX2_playRound 17 = .ok (.getfield 22, 3) := by decide +kernel
theorem dX2_playRound_20 : decode cX2_playRound 20 = .ok (.invokevirtual 62, 3) := by decide +kernel
theorem dX2_playRound_23 : decode cX2_playRound 23 = .ok (.putfield 45, 3) := by decide +kernel
theorem dX2_playRound_26 : decode cX2_playRound 26 = .ok (.aload_n 0, 1) := by decide +kernel
theorem dX2_playRound_27 : decode cX2_playRound 27 = .ok (.getfield 45, 3) := by decide +kernel
theorem dX2_playRound_30 : decode cX2_playRound 30 = .ok (.ifCond .eq 5, 3) := by decide +kernel
theorem dX2_playRound_33 : decode cX2_playRound 33 = .ok (.iconst 0, 1) := by decide +kernel
theorem dX2_playRound_34 : decode cX2_playRound 34 = .ok (.ireturn, 1) := by decide +kernel
theorem dX2_playRound_35 : decode cX2_playRound 35 = .ok (.aload_n 0, 1) := by decide +kernel
theorem dX2_playRound_36 : decode cX2_playRound 36 = .ok (.getfield 22, 3) := by decide +kernel
theorem dX2_playRound_39 : decode cX2_playRound 39 = .ok (.invokevirtual 66, 3) := by decide +kernel
theorem dX2_playRound_42 : decode cX2_playRound 42 = .ok (.aload_n 0, 1) := by decide +kernel
theorem dX2_playRound_43 : decode cX2_playRound 43 = .ok (.getfield 22, 3) := by decide +kernel
theorem dX2_playRound_46 : decode cX2_playRound 46 = .ok (.invokevirtual 69, 3) := by decide +kernel
theorem dX2_playRound_49 : decode cX2_playRound 49 = .ok (.ifCond .eq 10, 3) := by decide +kernel
theorem dX2_playRound_52 : decode cX2_playRound 52 = .ok (.aload_n 0, 1) := by decide +kernel
theorem dX2_playRound_53 : decode cX2_playRound 53 = .ok (.iconst 5, 1) := by decide +kernel
theorem dX2_playRound_54 : decode cX2_playRound 54 = .ok (.putfield 45, 3) := by decide +kernel
theorem dX2_playRound_57 : decode cX2_playRound 57 = .ok (.iconst 0, 1) := by decide +kernel
theorem dX2_playRound_58 : decode cX2_playRound 58 = .ok (.ireturn, 1) := by decide +kernel
theorem dX2_playRound_59 : decode cX2_playRound 59 = .ok (.aload_n 0, 1) := by decide +kernel
theorem dX2_playRound_60 : decode cX2_playRound 60 = .ok (.getfield 22, 3) := by decide +kernel
theorem dX2_playRound_63 : decode cX2_playRound 63 = .ok (.getfield 72, 3) := by decide +kernel
theorem dX2_playRound_66 : decode cX2_playRound 66 = .ok (.aload_n 0, 1) := by decide +kernel
theorem dX2_playRound_67 : decode cX2_playRound 67 = .ok (.getfield 22, 3) := by decide +kernel
theorem dX2_playRound_70 : decode cX2_playRound 70 = .ok (.getfield 75, 3) := by decide +kernel
theorem dX2_playRound_73 : decode cX2_playRound 73 = .ok (.lor, 1) := by decide +kernel
theorem dX2_playRound_74 : decode cX2_playRound 74 = .ok (.lconst 0, 1) := by decide +kernel
theorem dX2_playRound_75 : decode cX2_playRound 75 = .ok (.lcmp, 1) := by decide +kernel
theorem dX2_playRound_76 : decode cX2_playRound 76 = .ok (.ifCond .ne 5, 3) := by decide +kernel
theorem dX2_playRound_79 : decode cX2_playRound 79 = .ok (.iconst 0, 1) := by decide +kernel
theorem dX2_playRound_80 : decode cX2_playRound 80 = .ok (.ireturn, 1) := by decide +kernel
theorem dX2_playRound_81 : decode cX2_playRound 81 = .ok (.aload_n 0, 1) := by decide +kernel
theorem dX2_playRound_82 : decode cX2_playRound 82 = .ok (.invokevirtual 78, 3) := by decide +kernel
theorem dX2_playRound_85 : decode cX2_playRound 85 = .ok (.iconst 1, 1) := by decide +kernel
theorem dX2_playRound_86 : decode cX2_playRound 86 = .ok (.ireturn, 1) := by decide +kernel
theorem dX2_decide_0 : decode cX2_decide 0 = .ok (.aload_n 0, 1) := by decide +kernel
theorem dX2_decide_1 : decode cX2_decide 1 = .ok (.dup, 1) := by decide +kernel
theorem dX2_decide_2 : decode cX2_decide 2 = .ok (.getfield 41, 3) := by decide +kernel
theorem dX2_decide_5 : decode cX2_decide 5 = .ok (.iconst 1, 1) := by decide +kernel
theorem dX2_decide_6 : decode cX2_decide 6 = .ok (.iadd, 1) := by decide +kernel
theorem dX2_decide_7 : decode cX2_decide 7 = .ok (.putfield 41, 3) := by decide +kernel
theorem dX2_decide_10 : decode cX2_decide 10 = .ok (.aload_n 0, 1) := by decide +kernel
theorem dX2_decide_11 : decode cX2_decide 11 = .ok (.dup, 1) := by decide +kernel
theorem dX2_decide_12 : decode cX2_decide 12 = .ok (.getfield 34, 3) := by decide +kernel
theorem dX2_decide_15 : decode cX2_decide 15 = .ok (.aload_n 0, 1) := by decide +kernel
theorem dX2_decide_16 : decode cX2_decide 16 = .ok (.getfield 22, 3) := by decide +kernel
theorem dX2_decide_19 : decode cX2_decide 19 = .ok (.getfield 72, 3) := by decide +kernel
theorem dX2_decide_22 : decode cX2_decide 22 = .ok (.lor, 1) := by decide +kernel
theorem dX2_decide_23 : decode cX2_decide 23 = .ok (.putfield 34, 3) := by decide +kernel
theorem dX2_decide_26 : decode cX2_decide 26 = .ok (.aload_n 0, 1) := by decide +kernel
theorem dX2_decide_27 : decode cX2_decide 27 = .ok (.dup, 1) := by decide +kernel
theorem dX2_decide_28 : decode cX2_decide 28 = .ok (.getfield 38, 3) := by decide +kernel
theorem dX2_decide_31 : decode cX2_decide 31 = .ok (.aload_n 0, 1) := by decide +kernel
theorem dX2_decide_32 : decode cX2_decide 32 = .ok (.getfield 22, 3) := by decide +kernel
theorem dX2_decide_35 : decode cX2_decide 35 = .ok (.getfield 75, 3) := by decide +kernel
theorem dX2_decide_38 : decode cX2_decide 38 = .ok (.lor, 1) := by decide +kernel
theorem dX2_decide_39 : decode cX2_decide 39 = .ok (.putfield 38, 3) := by decide +kernel
theorem dX2_decide_42 : decode cX2_decide 42 = .ok (.iconst 0, 1) := by decide +kernel
theorem dX2_decide_43 : decode cX2_decide 43 = .ok (.istore_n 1, 1) := by decide +kernel
theorem dX2_decide_44 : decode cX2_decide 44 = .ok (.iload_n 1, 1) := by decide +kernel
theorem dX2_decide_45 : decode cX2_decide 45 = .ok (.aload_n 0, 1) := by decide +kernel
theorem dX2_decide_46 : decode cX2_decide 46 = .ok (.getfield 18, 3) := by decide +kernel
theorem dX2_decide_49 : decode cX2_decide 49 = .ok (.getfield 48, 3) := by decide +kernel
theorem dX2_decide_52 : decode cX2_decide 52 = .ok (.if_icmp .ge 55, 3) := by decide +kernel
theorem dX2_decide_55 : decode cX2_decide 55 = .ok (.aload_n 0, 1) := by decide +kernel
theorem dX2_decide_56 : decode cX2_decide 56 = .ok (.getfield 22, 3) := by decide +kernel
theorem dX2_decide_59 : decode cX2_decide 59 = .ok (.getfield 72, 3) := by decide +kernel
theorem dX2_decide_62 : decode cX2_decide 62 = .ok (.aload_n 0, 1) := by decide +kernel
theorem dX2_decide_63 : decode cX2_decide 63 = .ok (.getfield 22, 3) := by decide +kernel
theorem dX2_decide_66 : decode cX2_decide 66 = .ok (.getfield 75, 3) := by decide +kernel
theorem dX2_decide_69 : decode cX2_decide 69 = .ok (.lor, 1) := by decide +kernel
theorem dX2_decide_70 : decode cX2_decide 70 = .ok (.iload_n 1, 1) := by decide +kernel
theorem dX2_decide_71 : decode cX2_decide 71 = .ok (.invokestatic 53, 3) := by decide +kernel
theorem dX2_decide_74 : decode cX2_decide 74 = .ok (.ifCond .eq 27, 3) := by decide +kernel
theorem dX2_decide_77 : decode cX2_decide 77 = .ok (.aload_n 0, 1) := by decide +kernel
theorem dX2_decide_78 : decode cX2_decide 78 = .ok (.getfield 9, 3) := by decide +kernel
theorem dX2_decide_81 : decode cX2_decide 81 = .ok (.iload_n 1, 1) := by decide +kernel
theorem dX2_decide_82 : decode cX2_decide 82 = .ok (.aload_n 0, 1) := by decide +kernel
theorem dX2_decide_83 : decode cX2_decide 83 = .ok (.getfield 41, 3) := by decide +kernel
theorem dX2_decide_86 : decode cX2_decide 86 = .ok (.iastore, 1) := by decide +kernel
theorem dX2_decide_87 : decode cX2_decide 87 = .ok (.aload_n 0, 1) := by decide +kernel
theorem dX2_decide_88 : decode cX2_decide 88 = .ok (.getfield 15, 3) := by decide +kernel
theorem dX2_decide_91 : decode cX2_decide 91 = .ok (.iload_n 1, 1) := by decide +kernel
theorem dX2_decide_92 : decode cX2_decide 92 = .ok (.aload_n 0, 1) := by decide +kernel
theorem dX2_decide_93 : decode cX2_decide 93 = .ok (.getfield 22, 3) := by decide +kernel
theorem dX2_decide_96 : decode cX2_decide 96 = .ok (.iload_n 1, 1) := by decide +kernel
theorem dX2_decide_97 : decode cX2_decide 97 = .ok (.invokevirtual 81, 3) := by decide +kernel
theorem dX2_decide_100 : decode cX2_decide 100 = .ok (.iastore, 1) := by decide +kernel
theorem dX2_decide_101 : decode cX2_decide 101 = .ok (.iinc 1 1, 3) := by decide +kernel
theorem dX2_decide_104 : decode cX2_decide 104 = .ok (.goto (-60), 3) := by decide +kernel
theorem dX2_decide_107 : decode cX2_decide 107 = .ok (.return_, 1) := by decide +kernel
theorem dX3_init_0 : decode cX3_init 0 = .ok (.aload_n 0, 1) := by decide +kernel
theorem dX3_init_1 : decode cX3_init 1 = .ok (.invokespecial 3, 3) := by decide +kernel
theorem dX3_init_4 : decode cX3_init 4 = .ok (.aload_n 0, 1) := by decide +kernel
theorem dX3_init_5 : decode cX3_init 5 = .ok (.sipush 9349, 3) := by decide +kernel
theorem dX3_init_8 : decode cX3_init 8 = .ok (.newarray .long, 2) := by decide +kernel
theorem dX3_init_10 : decode cX3_init 10 = .ok (.putfield 9, 3) := by decide +kernel
theorem dX3_init_13 : decode cX3_init 13 = .ok (.aload_n 0, 1) := by decide +kernel
theorem dX3_init_14 : decode cX3_init 14 = .ok (.aload_n 1, 1) := by decide +kernel
theorem dX3_init_15 : decode cX3_init 15 = .ok (.putfield 15, 3) := by decide +kernel
theorem dX3_init_18 : decode cX3_init 18 = .ok (.return_, 1) := by decide +kernel
theorem dX3_forget_0 : decode cX3_forget 0 = .ok (.aload_n 0, 1) := by decide +kernel
theorem dX3_forget_1 : decode cX3_forget 1 = .ok (.iconst 0, 1) := by decide +kernel
theorem dX3_forget_2 : decode cX3_forget 2 = .ok (.putfield 19, 3) := by decide +kernel
theorem dX3_forget_5 : decode cX3_forget 5 = .ok (.return_, 1) := by decide +kernel
theorem dX3_find_0 : decode cX3_find 0 = .ok (.aload_n 0, 1) := by decide +kernel
theorem dX3_find_1 : decode cX3_find 1 = .ok (.getfield 19, 3) := by decide +kernel
theorem dX3_find_4 : decode cX3_find 4 = .ok (.ifCond .ne 19, 3) := by decide +kernel
theorem dX3_find_7 : decode cX3_find 7 = .ok (.aload_n 0, 1) := by decide +kernel
theorem dX3_find_8 : decode cX3_find 8 = .ok (.iconst 0, 1) := by decide +kernel
theorem dX3_find_9 : decode cX3_find 9 = .ok (.putfield 23, 3) := by decide +kernel
theorem dX3_find_12 : decode cX3_find 12 = .ok (.aload_n 0, 1) := by decide +kernel
theorem dX3_find_13 : decode cX3_find 13 = .ok (.iconst 0, 1) := by decide +kernel
theorem dX3_find_14 : decode cX3_find 14 = .ok (.lconst 0, 1) := by decide +kernel
theorem dX3_find_15 : decode cX3_find 15 = .ok (.invokestatic 27, 3) := by decide +kernel
theorem dX3_find_18 : decode cX3_find 18 = .ok (.aload_n 0, 1) := by decide +kernel
theorem dX3_find_19 : decode cX3_find 19 = .ok (.iconst 1, 1) := by decide +kernel
theorem dX3_find_20 : decode cX3_find 20 = .ok (.putfield 19, 3) := by decide +kernel
theorem dX3_find_23 : decode cX3_find 23 = .ok (.return_, 1) := by decide +kernel
theorem dX3_grow_0 : decode cX3_grow 0 = .ok (.aload_n 0, 1) := by decide +kernel
theorem dX3_grow_1 : decode cX3_grow 1 = .ok (.getfield 15, 3) := by decide +kernel
theorem dX3_grow_4 : decode cX3_grow 4 = .ok (.astore 4, 2) := by decide +kernel
theorem dX3_grow_6 : decode cX3_grow 6 = .ok (.iload_n 1, 1) := by decide +kernel
theorem dX3_grow_7 : decode cX3_grow 7 = .ok (.ifCond .le 22, 3) := by decide +kernel
theorem dX3_grow_10 : decode cX3_grow 10 = .ok (.aload 4, 2) := by decide +kernel
theorem dX3_grow_12 : decode cX3_grow 12 = .ok (.lload_n 2, 1) := by decide +kernel
theorem dX3_grow_13 : decode cX3_grow 13 = .ok (.aload 4, 2) := by decide +kernel
theorem dX3_grow_15 : decode cX3_grow 15 = .ok (.getfield 31, 3) := by decide +kernel
theorem dX3_grow_18 : decode cX3_grow 18 = .ok (.iload_n 1, 1) := by decide +kernel
theorem dX3_grow_19 : decode cX3_grow 19 = .ok (.iconst 1, 1) := by decide +kernel
theorem dX3_grow_20 : decode cX3_grow 20 = .ok (.isub, 1) := by decide +kernel
theorem dX3_grow_21 : decode cX3_grow 21 = .ok (.iaload, 1) := by decide +kernel
theorem dX3_grow_22 : decode cX3_grow 22 = .ok (.invokevirtual 37, 3) := by decide +kernel
theorem dX3_grow_25 : decode cX3_grow 25 = .ok (.ifCond .eq 4, 3) := by decide +kernel
theorem dX3_grow_28 : decode cX3_grow 28 = .ok (.return_, 1) := by decide +kernel
theorem dX3_grow_29 : decode cX3_grow 29 = .ok (.iload_n 1, 1) := by decide +kernel
theorem dX3_grow_30 : decode cX3_grow 30 = .ok (.aload 4, 2) := by decide +kernel
theorem dX3_grow_32 : decode cX3_grow 32 = .ok (.getfield 41, 3) := by decide +kernel
theorem dX3_grow_35 : decode cX3_grow 35 = .ok (.if_icmp .lt 45, 3) := by decide +kernel
theorem dX3_grow_38 : decode cX3_grow 38 = .ok (.aload_n 0, 1) := by decide +kernel
theorem dX3_grow_39 : decode cX3_grow 39 = .ok (.getfield 23, 3) := by decide +kernel
theorem dX3_grow_42 : decode cX3_grow 42 = .ok (.aload_n 0, 1) := by decide +kernel
theorem dX3_grow_43 : decode cX3_grow 43 = .ok (.getfield 9, 3) := by decide +kernel
theorem dX3_grow_46 : decode cX3_grow 46 = .ok (.arraylength, 1) := by decide +kernel
theorem dX3_grow_47 : decode cX3_grow 47 = .ok (.if_icmp .ge 32, 3) := by decide +kernel
theorem dX3_grow_50 : decode cX3_grow 50 = .ok (.aload 4, 2) := by decide +kernel
theorem dX3_grow_52 : decode cX3_grow 52 = .ok (.lload_n 2, 1) := by decide +kernel
theorem dX3_grow_53 : decode cX3_grow 53 = .ok (.invokevirtual 44, 3) := by decide +kernel
theorem dX3_grow_56 : decode cX3_grow 56 = .ok (.ifCond .eq 23, 3) := by decide +kernel
theorem dX3_grow_59 : decode cX3_grow 59 = .ok (.aload_n 0, 1) := by decide +kernel
theorem dX3_grow_60 : decode cX3_grow 60 = .ok (.getfield 9, 3) := by decide +kernel
theorem dX3_grow_63 : decode cX3_grow 63 = .ok (.aload_n 0, 1) := by decide +kernel
theorem dX3_grow_64 : decode cX3_grow 64 = .ok (.getfield 23, 3) := by decide +kernel
theorem dX3_grow_67 : decode cX3_grow 67 = .ok (.lload_n 2, 1) := by decide +kernel
theorem dX3_grow_68 : decode cX3_grow 68 = .ok (.lastore, 1) := by decide +kernel
theorem dX3_grow_69 : decode cX3_grow 69 = .ok (.aload_n 0, 1) := by decide +kernel
theorem dX3_grow_70 : decode cX3_grow 70 = .ok (.dup, 1) := by decide +kernel
theorem dX3_grow_71 : decode cX3_grow 71 = .ok (.getfield 23, 3) := by decide +kernel
theorem dX3_grow_74 : decode cX3_grow 74 = .ok (.iconst 1, 1) := by decide +kernel
theorem dX3_grow_75 : decode cX3_grow 75 = .ok (.iadd, 1) := by decide +kernel
theorem dX3_grow_76 : decode cX3_grow 76 = .ok (.putfield 23, 3) := by decide +kernel
theorem dX3_grow_79 : decode cX3_grow 79 = .ok (.return_, 1) := by decide +kernel
theorem dX3_grow_80 : decode cX3_grow 80 = .ok (.lload_n 2, 1) := by decide +kernel
theorem dX3_grow_81 : decode cX3_grow 81 = .ok (.aload 4, 2) := by decide +kernel
theorem dX3_grow_83 : decode cX3_grow 83 = .ok (.getfield 48, 3) := by decide +kernel
theorem dX3_grow_86 : decode cX3_grow 86 = .ok (.iload_n 1, 1) := by decide +kernel
theorem dX3_grow_87 : decode cX3_grow 87 = .ok (.laload, 1) := by decide +kernel
theorem dX3_grow_88 : decode cX3_grow 88 = .ok (.lxor, 1) := by decide +kernel
theorem dX3_grow_89 : decode cX3_grow 89 = .ok (.lstore 5, 2) := by decide +kernel
theorem dX3_grow_91 : decode cX3_grow 91 = .ok (.lload_n 2, 1) := by decide +kernel
theorem dX3_grow_92 : decode cX3_grow 92 = .ok (.iload_n 1, 1) := by decide +kernel
theorem dX3_grow_93 : decode cX3_grow 93 = .ok (.invokestatic 51, 3) := by decide +kernel
theorem dX3_grow_96 : decode cX3_grow 96 = .ok (.istore 7, 2) := by decide +kernel
theorem dX3_grow_98 : decode cX3_grow 98 = .ok (.aload_n 0, 1) := by decide +kernel
theorem dX3_grow_99 : decode cX3_grow 99 = .ok (.iload_n 1, 1) := by decide +kernel
theorem dX3_grow_100 : decode cX3_grow 100 = .ok (.iconst 1, 1) := by decide +kernel
theorem dX3_grow_101 : decode cX3_grow 101 = .ok (.iadd, 1) := by decide +kernel
theorem dX3_grow_102 : decode cX3_grow 102 = .ok (.iload 7, 2) := by decide +kernel
theorem dX3_grow_104 : decode cX3_grow 104 = .ok (.ifCond .eq 7, 3) := by decide +kernel
theorem dX3_grow_107 : decode cX3_grow 107 = .ok (.lload_n 2, 1) := by decide +kernel
theorem dX3_grow_108 : decode cX3_grow 108 = .ok (.goto 5, 3) := by decide +kernel
theorem dX3_grow_111 : decode cX3_grow 111 = .ok (.lload 5, 2) := by decide +kernel
theorem dX3_grow_113 : decode cX3_grow 113 = .ok (.invokestatic 27, 3) := by decide +kernel
theorem dX3_grow_116 : decode cX3_grow 116 = .ok (.aload_n 0, 1) := by decide +kernel
theorem dX3_grow_117 : decode cX3_grow 117 = .ok (.iload_n 1, 1) := by decide +kernel
theorem dX3_grow_118 : decode cX3_grow 118 = .ok (.iconst 1, 1) := by decide +kernel
theorem dX3_grow_119 : decode cX3_grow 119 = .ok (.iadd, 1) := by decide +kernel
theorem dX3_grow_120 : decode cX3_grow 120 = .ok (.iload 7, 2) := by decide +kernel
theorem dX3_grow_122 : decode cX3_grow 122 = .ok (.ifCond .eq 8, 3) := by decide +kernel
theorem dX3_grow_125 : decode cX3_grow 125 = .ok (.lload 5, 2) := by decide +kernel
theorem dX3_grow_127 : decode cX3_grow 127 = .ok (.goto 4, 3) := by decide +kernel
theorem dX3_grow_130 : decode cX3_grow 130 = .ok (.lload_n 2, 1) := by decide +kernel
theorem dX3_grow_131 : decode cX3_grow 131 = .ok (.invokestatic 27, 3) := by decide +kernel
theorem dX3_grow_134 : decode cX3_grow 134 = .ok (.return_, 1) := by decide +kernel
theorem dX3_isAnswerFor_0 : decode cX3_isAnswerFor 0 = .ok (.lload 6, 2) := by decide +kernel
theorem dX3_isAnswerFor_2 : decode cX3_isAnswerFor 2 = .ok (.lload_n 1, 1) := by decide +kernel
theorem dX3_isAnswerFor_3 : decode cX3_isAnswerFor 3 = .ok (.land, 1) := by decide +kernel
theorem dX3_isAnswerFor_4 : decode cX3_isAnswerFor 4 = .ok (.lload_n 1, 1) := by decide +kernel
theorem dX3_isAnswerFor_5 : decode cX3_isAnswerFor 5 = .ok (.lcmp, 1) := by decide +kernel
theorem dX3_isAnswerFor_6 : decode cX3_isAnswerFor 6 = .ok (.ifCond .ne 30, 3) := by decide +kernel
theorem dX3_isAnswerFor_9 : decode cX3_isAnswerFor 9 = .ok (.lload 6, 2) := by decide +kernel
theorem dX3_isAnswerFor_11 : decode cX3_isAnswerFor 11 = .ok (.lload_n 3, 1) := by decide +kernel
theorem dX3_isAnswerFor_12 : decode cX3_isAnswerFor 12 = .ok (.land, 1) := by decide +kernel
theorem dX3_isAnswerFor_13 : decode cX3_isAnswerFor 13 = .ok (.lconst 0, 1) := by decide +kernel
theorem dX3_isAnswerFor_14 : decode cX3_isAnswerFor 14 = .ok (.lcmp, 1) := by decide +kernel
theorem dX3_isAnswerFor_15 : decode cX3_isAnswerFor 15 = .ok (.ifCond .ne 21, 3) := by decide +kernel
theorem dX3_isAnswerFor_18 : decode cX3_isAnswerFor 18 = .ok (.aload_n 0, 1) := by decide +kernel
theorem dX3_isAnswerFor_19 : decode cX3_isAnswerFor 19 = .ok (.getfield 15, 3) := by decide +kernel
theorem dX3_isAnswerFor_22 : decode cX3_isAnswerFor 22 = .ok (.lload 6, 2) := by decide +kernel
theorem dX3_isAnswerFor_24 : decode cX3_isAnswerFor 24 = .ok (.iload 5, 2) := by decide +kernel
theorem dX3_isAnswerFor_26 : decode cX3_isAnswerFor 26 = .ok (.invokevirtual 54, 3) := by decide +kernel
theorem dX3_isAnswerFor_29 : decode cX3_isAnswerFor 29 = .ok (.ifCond .eq 7, 3) := by decide +kernel
theorem dX3_isAnswerFor_32 : decode cX3_isAnswerFor 32 = .ok (.iconst 1, 1) := by decide +kernel
theorem dX3_isAnswerFor_33 : decode cX3_isAnswerFor 33 = .ok (.goto 4, 3) := by decide +kernel
theorem dX3_isAnswerFor_36 : decode cX3_isAnswerFor 36 = .ok (.iconst 0, 1) := by decide +kernel
theorem dX3_isAnswerFor_37 : decode cX3_isAnswerFor 37 = .ok (.ireturn, 1) := by decide +kernel
theorem dX3_countAnswers_0 : decode cX3_countAnswers 0 = .ok (.aload_n 0, 1) := by decide +kernel
theorem dX3_countAnswers_1 : decode cX3_countAnswers 1 = .ok (.invokevirtual 57, 3) := by decide +kernel
theorem dX3_countAnswers_4 : decode cX3_countAnswers 4 = .ok (.iconst 0, 1) := by decide +kernel
theorem dX3_countAnswers_5 : decode cX3_countAnswers 5 = .ok (.istore 6, 2) := by decide +kernel
theorem dX3_countAnswers_7 : decode cX3_countAnswers 7 = .ok (.iconst 0, 1) := by decide +kernel
theorem dX3_countAnswers_8 : decode cX3_countAnswers 8 = .ok (.istore 7, 2) := by decide +kernel
theorem dX3_countAnswers_10 : decode cX3_countAnswers 10 = .ok (.iload 7, 2) := by decide +kernel
theorem dX3_countAnswers_12 : decode cX3_countAnswers 12 = .ok (.aload_n 0, 1) := by decide +kernel
theorem dX3_countAnswers_13 : decode cX3_countAnswers 13 = .ok (.getfield 23, 3) := by decide +kernel
theorem dX3_countAnswers_16 : decode cX3_countAnswers 16 = .ok (.if_icmp .ge 30, 3) := by decide +kernel
theorem dX3_countAnswers_19 : decode cX3_countAnswers 19 = .ok (.aload_n 0, 1) := by decide +kernel
theorem dX3_countAnswers_20 : decode cX3_countAnswers 20 = .ok (.lload_n 1, 1) := by decide +kernel
theorem dX3_countAnswers_21 : decode cX3_countAnswers 21 = .ok (.lload_n 3, 1) := by decide +kernel
theorem dX3_countAnswers_22 : decode cX3_countAnswers 22 = .ok (.iload 5, 2) := by decide +kernel
theorem dX3_countAnswers_24 : decode cX3_countAnswers 24 = .ok (.aload_n 0, 1) := by decide +kernel
theorem dX3_countAnswers_25 : decode cX3_countAnswers 25 = .ok (.getfield 9, 3) := by decide +kernel
theorem dX3_countAnswers_28 : decode cX3_countAnswers 28 = .ok (.iload 7, 2) := by decide +kernel
theorem dX3_countAnswers_30 : decode cX3_countAnswers 30 = .ok (.laload, 1) := by decide +kernel
theorem dX3_countAnswers_31 : decode cX3_countAnswers 31 = .ok (.invokevirtual 60, 3) := by decide +kernel
theorem dX3_countAnswers_34 : decode cX3_countAnswers 34 = .ok (.ifCond .eq 6, 3) := by decide +kernel
theorem dX3_countAnswers_37 : decode cX3_countAnswers 37 = .ok (.iinc 6 1, 3) := by decide +kernel
theorem dX3_countAnswers_40 : decode cX3_countAnswers 40 = .ok (.iinc 7 1, 3) := by decide +kernel
theorem dX3_countAnswers_43 : decode cX3_countAnswers 43 = .ok (.goto (-33), 3) := by decide +kernel
theorem dX3_countAnswers_46 : decode cX3_countAnswers 46 = .ok (.iload 6, 2) := by decide +kernel
theorem dX3_countAnswers_48 : decode cX3_countAnswers 48 = .ok (.ireturn, 1) := by decide +kernel
theorem dX3_findAnswer_0 : decode cX3_findAnswer 0 = .ok (.aload_n 0, 1) := by decide +kernel
theorem dX3_findAnswer_1 : decode cX3_findAnswer 1 = .ok (.invokevirtual 57, 3) := by decide +kernel
theorem dX3_findAnswer_4 : decode cX3_findAnswer 4 = .ok (.iconst 0, 1) := by decide +kernel
theorem dX3_findAnswer_5 : decode cX3_findAnswer 5 = .ok (.istore 6, 2) := by decide +kernel
theorem dX3_findAnswer_7 : decode cX3_findAnswer 7 = .ok (.iconst 0, 1) := by decide +kernel
theorem dX3_findAnswer_8 : decode cX3_findAnswer 8 = .ok (.istore 7, 2) := by decide +kernel
theorem dX3_findAnswer_10 : decode cX3_findAnswer 10 = .ok (.iload 7, 2) := by decide +kernel
theorem dX3_findAnswer_12 : decode cX3_findAnswer 12 = .ok (.aload_n 0, 1) := by decide +kernel
theorem dX3_findAnswer_13 : decode cX3_findAnswer 13 = .ok (.getfield 23, 3) := by decide +kernel
theorem dX3_findAnswer_16 : decode cX3_findAnswer 16 = .ok (.if_icmp .ge 44, 3) := by decide +kernel
theorem dX3_findAnswer_19 : decode cX3_findAnswer 19 = .ok (.aload_n 0, 1) := by decide +kernel
theorem dX3_findAnswer_20 : decode cX3_findAnswer 20 = .ok (.lload_n 1, 1) := by decide +kernel
theorem dX3_findAnswer_21 : decode cX3_findAnswer 21 = .ok (.lload_n 3, 1) := by decide +kernel
theorem dX3_findAnswer_22 : decode cX3_findAnswer 22 = .ok (.iconst (-1), 1) := by decide +kernel
theorem dX3_findAnswer_23 : decode cX3_findAnswer 23 = .ok (.aload_n 0, 1) := by decide +kernel
theorem dX3_findAnswer_24 : decode cX3_findAnswer 24 = .ok (.getfield 9, 3) := by decide +kernel
theorem dX3_findAnswer_27 : decode cX3_findAnswer 27 = .ok (.iload 7, 2) := by decide +kernel
theorem dX3_findAnswer_29 : decode cX3_findAnswer 29 = .ok (.laload, 1) := by decide +kernel
theorem dX3_findAnswer_30 : decode cX3_findAnswer 30 = .ok (.invokevirtual 60, 3) := by decide +kernel
theorem dX3_findAnswer_33 : decode cX3_findAnswer 33 = .ok (.ifCond .eq 21, 3) := by decide +kernel
theorem dX3_findAnswer_36 : decode cX3_findAnswer 36 = .ok (.iload 6, 2) := by decide +kernel
theorem dX3_findAnswer_38 : decode cX3_findAnswer 38 = .ok (.iload 5, 2) := by decide +kernel
theorem dX3_findAnswer_40 : decode cX3_findAnswer 40 = .ok (.if_icmp .ne 11, 3) := by decide +kernel
theorem dX3_findAnswer_43 : decode cX3_findAnswer 43 = .ok (.aload_n 0, 1) := by decide +kernel
theorem dX3_findAnswer_44 : decode cX3_findAnswer 44 = .ok (.getfield 9, 3) := by decide +kernel
theorem dX3_findAnswer_47 : decode cX3_findAnswer 47 = .ok (.iload 7, 2) := by decide +kernel
theorem dX3_findAnswer_49 : decode cX3_findAnswer 49 = .ok (.laload, 1) := by decide +kernel
theorem dX3_findAnswer_50 : decode cX3_findAnswer 50 = .ok (.lreturn, 1) := by decide +kernel
theorem dX3_findAnswer_51 : decode cX3_findAnswer 51 = .ok (.iinc 6 1, 3) := by decide +kernel
theorem dX3_findAnswer_54 : decode cX3_findAnswer 54 = .ok (.iinc 7 1, 3) := by decide +kernel
theorem dX3_findAnswer_57 : decode cX3_findAnswer 57 = .ok (.goto (-47), 3) := by decide +kernel
theorem dX3_findAnswer_60 : decode cX3_findAnswer 60 = .ok (.lconst 0, 1) := by decide +kernel
theorem dX3_findAnswer_61 : decode cX3_findAnswer 61 = .ok (.lreturn, 1) := by decide +kernel
theorem dX3_linesOfAll_0 : decode cX3_linesOfAll 0 = .ok (.aload_n 0, 1) := by decide +kernel
theorem dX3_linesOfAll_1 : decode cX3_linesOfAll 1 = .ok (.invokevirtual 57, 3) := by decide +kernel
theorem dX3_linesOfAll_4 : decode cX3_linesOfAll 4 = .ok (.aload_n 0, 1) := by decide +kernel
theorem dX3_linesOfAll_5 : decode cX3_linesOfAll 5 = .ok (.getfield 15, 3) := by decide +kernel
theorem dX3_linesOfAll_8 : decode cX3_linesOfAll 8 = .ok (.getfield 64, 3) := by decide +kernel
theorem dX3_linesOfAll_11 : decode cX3_linesOfAll 11 = .ok (.lstore 5, 2) := by decide +kernel
theorem dX3_linesOfAll_13 : decode cX3_linesOfAll 13 = .ok (.iconst 0, 1) := by decide +kernel
theorem dX3_linesOfAll_14 : decode cX3_linesOfAll 14 = .ok (.istore 7, 2) := by decide +kernel
theorem dX3_linesOfAll_16 : decode cX3_linesOfAll 16 = .ok (.iload 7, 2) := by decide +kernel
theorem dX3_linesOfAll_18 : decode cX3_linesOfAll 18 = .ok (.aload_n 0, 1) := by decide +kernel
theorem dX3_linesOfAll_19 : decode cX3_linesOfAll 19 = .ok (.getfield 23, 3) := by decide +kernel
theorem dX3_linesOfAll_22 : decode cX3_linesOfAll 22 = .ok (.if_icmp .ge 38, 3) := by decide +kernel
theorem dX3_linesOfAll_25 : decode cX3_linesOfAll 25 = .ok (.aload_n 0, 1) := by decide +kernel
theorem dX3_linesOfAll_26 : decode cX3_linesOfAll 26 = .ok (.lload_n 1, 1) := by decide +kernel
theorem dX3_linesOfAll_27 : decode cX3_linesOfAll 27 = .ok (.lload_n 3, 1) := by decide +kernel
theorem dX3_linesOfAll_28 : decode cX3_linesOfAll 28 = .ok (.iconst (-1), 1) := by decide +kernel
theorem dX3_linesOfAll_29 : decode cX3_linesOfAll 29 = .ok (.aload_n 0, 1) := by decide +kernel
theorem dX3_linesOfAll_30 : decode cX3_linesOfAll 30 = .ok (.getfield 9, 3) := by decide +kernel
theorem dX3_linesOfAll_33 : decode cX3_linesOfAll 33 = .ok (.iload 7, 2) := by decide +kernel
theorem dX3_linesOfAll_35 : decode cX3_linesOfAll 35 = .ok (.laload, 1) := by decide +kernel
theorem dX3_linesOfAll_36 : decode cX3_linesOfAll 36 = .ok (.invokevirtual 60, 3) := by decide +kernel
theorem dX3_linesOfAll_39 : decode cX3_linesOfAll 39 = .ok (.ifCond .eq 15, 3) := by decide +kernel
theorem dX3_linesOfAll_42 : decode cX3_linesOfAll 42 = .ok (.lload 5, 2) := by decide +kernel
theorem dX3_linesOfAll_44 : decode cX3_linesOfAll 44 = .ok (.aload_n 0, 1) := by decide +kernel
theorem dX3_linesOfAll_45 : decode cX3_linesOfAll 45 = .ok (.getfield 9, 3) := by decide +kernel
theorem dX3_linesOfAll_48 : decode cX3_linesOfAll 48 = .ok (.iload 7, 2) := by decide +kernel
theorem dX3_linesOfAll_50 : decode cX3_linesOfAll 50 = .ok (.laload, 1) := by decide +kernel
theorem dX3_linesOfAll_51 : decode cX3_linesOfAll 51 = .ok (.land, 1) := by decide +kernel
theorem dX3_linesOfAll_52 : decode cX3_linesOfAll 52 = .ok (.lstore 5, 2) := by decide +kernel
theorem dX3_linesOfAll_54 : decode cX3_linesOfAll 54 = .ok (.iinc 7 1, 3) := by decide +kernel
theorem dX3_linesOfAll_57 : decode cX3_linesOfAll 57 = .ok (.goto (-41), 3) := by decide +kernel
theorem dX3_linesOfAll_60 : decode cX3_linesOfAll 60 = .ok (.lload 5, 2) := by decide +kernel
theorem dX3_linesOfAll_62 : decode cX3_linesOfAll 62 = .ok (.lreturn, 1) := by decide +kernel
theorem dX3_linesOfSome_0 : decode cX3_linesOfSome 0 = .ok (.aload_n 0, 1) := by decide +kernel
theorem dX3_linesOfSome_1 : decode cX3_linesOfSome 1 = .ok (.invokevirtual 57, 3) := by decide +kernel
theorem dX3_linesOfSome_4 : decode cX3_linesOfSome 4 = .ok (.lconst 0, 1) := by decide +kernel
theorem dX3_linesOfSome_5 : decode cX3_linesOfSome 5 = .ok (.lstore 5, 2) := by decide +kernel
theorem dX3_linesOfSome_7 : decode cX3_linesOfSome 7 = .ok (.iconst 0, 1) := by decide +kernel
theorem dX3_linesOfSome_8 : decode cX3_linesOfSome 8 = .ok (.istore 7, 2) := by decide +kernel
theorem dX3_linesOfSome_10 : decode cX3_linesOfSome 10 = .ok (.iload 7, 2) := by decide +kernel
theorem dX3_linesOfSome_12 : decode cX3_linesOfSome 12 = .ok (.aload_n 0, 1) := by decide +kernel
theorem dX3_linesOfSome_13 : decode cX3_linesOfSome 13 = .ok (.getfield 23, 3) := by decide +kernel
theorem dX3_linesOfSome_16 : decode cX3_linesOfSome 16 = .ok (.if_icmp .ge 38, 3) := by decide +kernel
theorem dX3_linesOfSome_19 : decode cX3_linesOfSome 19 = .ok (.aload_n 0, 1) := by decide +kernel
theorem dX3_linesOfSome_20 : decode cX3_linesOfSome 20 = .ok (.lload_n 1, 1) := by decide +kernel
theorem dX3_linesOfSome_21 : decode cX3_linesOfSome 21 = .ok (.lload_n 3, 1) := by decide +kernel
theorem dX3_linesOfSome_22 : decode cX3_linesOfSome 22 = .ok (.iconst (-1), 1) := by decide +kernel
theorem dX3_linesOfSome_23 : decode cX3_linesOfSome 23 = .ok (.aload_n 0, 1) := by decide +kernel
theorem dX3_linesOfSome_24 : decode cX3_linesOfSome 24 = .ok (.getfield 9, 3) := by decide +kernel
theorem dX3_linesOfSome_27 : decode cX3_linesOfSome 27 = .ok (.iload 7, 2) := by decide +kernel
theorem dX3_linesOfSome_29 : decode cX3_linesOfSome 29 = .ok (.laload, 1) := by decide +kernel
theorem dX3_linesOfSome_30 : decode cX3_linesOfSome 30 = .ok (.invokevirtual 60, 3) := by decide +kernel
theorem dX3_linesOfSome_33 : decode cX3_linesOfSome 33 = .ok (.ifCond .eq 15, 3) := by decide +kernel
theorem dX3_linesOfSome_36 : decode cX3_linesOfSome 36 = .ok (.lload 5, 2) := by decide +kernel
theorem dX3_linesOfSome_38 : decode cX3_linesOfSome 38 = .ok (.aload_n 0, 1) := by decide +kernel
theorem dX3_linesOfSome_39 : decode cX3_linesOfSome 39 = .ok (.getfield 9, 3) := by decide +kernel
theorem dX3_linesOfSome_42 : decode cX3_linesOfSome 42 = .ok (.iload 7, 2) := by decide +kernel
theorem dX3_linesOfSome_44 : decode cX3_linesOfSome 44 = .ok (.laload, 1) := by decide +kernel
theorem dX3_linesOfSome_45 : decode cX3_linesOfSome 45 = .ok (.lor, 1) := by decide +kernel
theorem dX3_linesOfSome_46 : decode cX3_linesOfSome 46 = .ok (.lstore 5, 2) := by decide +kernel
theorem dX3_linesOfSome_48 : decode cX3_linesOfSome 48 = .ok (.iinc 7 1, 3) := by decide +kernel
theorem dX3_linesOfSome_51 : decode cX3_linesOfSome 51 = .ok (.goto (-41), 3) := by decide +kernel
theorem dX3_linesOfSome_54 : decode cX3_linesOfSome 54 = .ok (.lload 5, 2) := by decide +kernel
theorem dX3_linesOfSome_56 : decode cX3_linesOfSome 56 = .ok (.lreturn, 1) := by decide +kernel
theorem dX4_init_0 : decode cX4_init 0 = .ok (.aload_n 0, 1) := by decide +kernel
theorem dX4_init_1 : decode cX4_init 1 = .ok (.invokespecial 3, 3) := by decide +kernel
theorem dX4_init_4 : decode cX4_init 4 = .ok (.aload_n 0, 1) := by decide +kernel
theorem dX4_init_5 : decode cX4_init 5 = .ok (.new 9, 3) := by decide +kernel
theorem dX4_init_8 : decode cX4_init 8 = .ok (.dup, 1) := by decide +kernel
theorem dX4_init_9 : decode cX4_init 9 = .ok (.invokespecial 11, 3) := by decide +kernel
theorem dX4_init_12 : decode cX4_init 12 = .ok (.putfield 12, 3) := by decide +kernel
theorem dX4_init_15 : decode cX4_init 15 = .ok (.aload_n 0, 1) := by decide +kernel
theorem dX4_init_16 : decode cX4_init 16 = .ok (.bipush 8, 2) := by decide +kernel
theorem dX4_init_18 : decode cX4_init 18 = .ok (.newarray .long, 2) := by decide +kernel
theorem dX4_init_20 : decode cX4_init 20 = .ok (.putfield 18, 3) := by decide +kernel
theorem dX4_init_23 : decode cX4_init 23 = .ok (.aload_n 0, 1) := by decide +kernel
theorem dX4_init_24 : decode cX4_init 24 = .ok (.aload_n 1, 1) := by decide +kernel
theorem dX4_init_25 : decode cX4_init 25 = .ok (.putfield 22, 3) := by decide +kernel
theorem dX4_init_28 : decode cX4_init 28 = .ok (.return_, 1) := by decide +kernel
theorem dX4_look_0 : decode cX4_look 0 = .ok (.aload_n 0, 1) := by decide +kernel
theorem dX4_look_1 : decode cX4_look 1 = .ok (.lload_n 1, 1) := by decide +kernel
theorem dX4_look_2 : decode cX4_look 2 = .ok (.putfield 26, 3) := by decide +kernel
theorem dX4_look_5 : decode cX4_look 5 = .ok (.aload_n 0, 1) := by decide +kernel
theorem dX4_look_6 : decode cX4_look 6 = .ok (.aload_n 0, 1) := by decide +kernel
theorem dX4_look_7 : decode cX4_look 7 = .ok (.getfield 22, 3) := by decide +kernel
theorem dX4_look_10 : decode cX4_look 10 = .ok (.getfield 30, 3) := by decide +kernel
theorem dX4_look_13 : decode cX4_look 13 = .ok (.lload_n 1, 1) := by decide +kernel
theorem dX4_look_14 : decode cX4_look 14 = .ok (.ldc2_w 35, 3) := by decide +kernel
theorem dX4_look_17 : decode cX4_look 17 = .ok (.lxor, 1) := by decide +kernel
theorem dX4_look_18 : decode cX4_look 18 = .ok (.land, 1) := by decide +kernel
theorem dX4_look_19 : decode cX4_look 19 = .ok (.lload_n 3, 1) := by decide +kernel
theorem dX4_look_20 : decode cX4_look 20 = .ok (.ldc2_w 35, 3) := by decide +kernel
theorem dX4_look_23 : decode cX4_look 23 = .ok (.lxor, 1) := by decide +kernel
theorem dX4_look_24 : decode cX4_look 24 = .ok (.land, 1) := by decide +kernel
theorem dX4_look_25 : decode cX4_look 25 = .ok (.putfield 37, 3) := by decide +kernel
theorem dX4_look_28 : decode cX4_look 28 = .ok (.aload_n 0, 1) := by decide +kernel
theorem dX4_look_29 : decode cX4_look 29 = .ok (.getfield 12, 3) := by decide +kernel
theorem dX4_look_32 : decode cX4_look 32 = .ok (.aload_n 0, 1) := by decide +kernel
theorem dX4_look_33 : decode cX4_look 33 = .ok (.getfield 22, 3) := by decide +kernel
theorem dX4_look_36 : decode cX4_look 36 = .ok (.getfield 40, 3) := by decide +kernel
theorem dX4_look_39 : decode cX4_look 39 = .ok (.iconst 1, 1) := by decide +kernel
theorem dX4_look_40 : decode cX4_look 40 = .ok (.iadd, 1) := by decide +kernel
theorem dX4_look_41 : decode cX4_look 41 = .ok (.invokevirtual 44, 3) := by decide +kernel
theorem dX4_look_44 : decode cX4_look 44 = .ok (.iconst 0, 1) := by decide +kernel
theorem dX4_look_45 : decode cX4_look 45 = .ok (.istore 5, 2) := by decide +kernel
theorem dX4_look_47 : decode cX4_look 47 = .ok (.iload 5, 2) := by decide +kernel
theorem dX4_look_49 : decode cX4_look 49 = .ok (.aload_n 0, 1) := by decide +kernel
theorem dX4_look_50 : decode cX4_look 50 = .ok (.getfield 22, 3) := by decide +kernel
theorem dX4_look_53 : decode cX4_look 53 = .ok (.getfield 48, 3) := by decide +kernel
theorem dX4_look_56 : decode cX4_look 56 = .ok (.if_icmp .ge 57, 3) := by decide +kernel
theorem dX4_look_59 : decode cX4_look 59 = .ok (.aload_n 0, 1) := by decide +kernel
theorem dX4_look_60 : decode cX4_look 60 = .ok (.getfield 37, 3) := by decide +kernel
theorem dX4_look_63 : decode cX4_look 63 = .ok (.iload 5, 2) := by decide +kernel
theorem dX4_look_65 : decode cX4_look 65 = .ok (.invokestatic 51, 3) := by decide +kernel
theorem dX4_look_68 : decode cX4_look 68 = .ok (.ifCond .ne 39, 3) := by decide +kernel
theorem dX4_look_71 : decode cX4_look 71 = .ok (.aload_n 0, 1) := by decide +kernel
theorem dX4_look_72 : decode cX4_look 72 = .ok (.getfield 12, 3) := by decide +kernel
theorem dX4_look_75 : decode cX4_look 75 = .ok (.aload_n 0, 1) := by decide +kernel
theorem dX4_look_76 : decode cX4_look 76 = .ok (.getfield 22, 3) := by decide +kernel
theorem dX4_look_79 : decode cX4_look 79 = .ok (.getfield 55, 3) := by decide +kernel
theorem dX4_look_82 : decode cX4_look 82 = .ok (.iload 5, 2) := by decide +kernel
theorem dX4_look_84 : decode cX4_look 84 = .ok (.iaload, 1) := by decide +kernel
theorem dX4_look_85 : decode cX4_look 85 = .ok (.aload_n 0, 1) := by decide +kernel
theorem dX4_look_86 : decode cX4_look 86 = .ok (.getfield 22, 3) := by decide +kernel
theorem dX4_look_89 : decode cX4_look 89 = .ok (.getfield 59, 3) := by decide +kernel
theorem dX4_look_92 : decode cX4_look 92 = .ok (.iload 5, 2) := by decide +kernel
theorem dX4_look_94 : decode cX4_look 94 = .ok (.iaload, 1) := by decide +kernel
theorem dX4_look_95 : decode cX4_look 95 = .ok (.aload_n 0, 1) := by decide +kernel
theorem dX4_look_96 : decode cX4_look 96 = .ok (.getfield 26, 3) := by decide +kernel
theorem dX4_look_99 : decode cX4_look 99 = .ok (.iload 5, 2) := by decide +kernel
theorem dX4_look_101 : decode cX4_look 101 = .ok (.invokestatic 51, 3) := by decide +kernel
theorem dX4_look_104 : decode cX4_look 104 = .ok (.invokevirtual 62, 3) := by decide +kernel
theorem dX4_look_107 : decode cX4_look 107 = .ok (.iinc 5 1, 3) := by decide +kernel
theorem dX4_look_110 : decode cX4_look 110 = .ok (.goto (-63), 3) := by decide +kernel
theorem dX4_look_113 : decode cX4_look 113 = .ok (.return_, 1) := by decide +kernel
theorem dX4_reason_0 : decode cX4_reason 0 = .ok (.aload_n 0, 1) := by decide +kernel
theorem dX4_reason_1 : decode cX4_reason 1 = .ok (.invokevirtual 66, 3) := by decide +kernel
theorem dX4_reason_4 : decode cX4_reason 4 = .ok (.ifCond .eq 5, 3) := by decide +kernel
theorem dX4_reason_7 : decode cX4_reason 7 = .ok (.iconst 1, 1) := by decide +kernel
theorem dX4_reason_8 : decode cX4_reason 8 = .ok (.ireturn, 1) := by decide +kernel
theorem dX4_reason_9 : decode cX4_reason 9 = .ok (.aload_n 0, 1) := by decide +kernel
theorem dX4_reason_10 : decode cX4_reason 10 = .ok (.invokevirtual 70, 3) := by decide +kernel
theorem dX4_reason_13 : decode cX4_reason 13 = .ok (.ifCond .eq 5, 3) := by decide +kernel
theorem dX4_reason_16 : decode cX4_reason 16 = .ok (.iconst 2, 1) := by decide +kernel
theorem dX4_reason_17 : decode cX4_reason 17 = .ok (.ireturn, 1) := by decide +kernel
theorem dX4_reason_18 : decode cX4_reason 18 = .ok (.aload_n 0, 1) := by decide +kernel
theorem dX4_reason_19 : decode cX4_reason 19 = .ok (.invokevirtual 73, 3) := by decide +kernel
theorem dX4_reason_22 : decode cX4_reason 22 = .ok (.ifCond .eq 5, 3) := by decide +kernel
theorem dX4_reason_25 : decode cX4_reason 25 = .ok (.iconst 3, 1) := by decide +kernel
theorem dX4_reason_26 : decode cX4_reason 26 = .ok (.ireturn, 1) := by decide +kernel
theorem dX4_reason_27 : decode cX4_reason 27 = .ok (.aload_n 0, 1) := by decide +kernel
theorem dX4_reason_28 : decode cX4_reason 28 = .ok (.getfield 12, 3) := by decide +kernel
theorem dX4_reason_31 : decode cX4_reason 31 = .ok (.getfield 76, 3) := by decide +kernel
theorem dX4_reason_34 : decode cX4_reason 34 = .ok (.ifCond .eq 7, 3) := by decide +kernel
theorem dX4_reason_37 : decode cX4_reason 37 = .ok (.iconst 4, 1) := by decide +kernel
theorem dX4_reason_38 : decode cX4_reason 38 = .ok (.goto 4, 3) := by decide +kernel
theorem dX4_reason_41 : decode cX4_reason 41 = .ok (.iconst 0, 1) := by decide +kernel
theorem dX4_reason_42 : decode cX4_reason 42 = .ok (.ireturn, 1) := by decide +kernel
theorem dX4_hasBrokenCell_0 : decode cX4_hasBrokenCell 0 = .ok (.iconst 0, 1) := by decide +kernel
theorem dX4_hasBrokenCell_1 : decode cX4_hasBrokenCell 1 = .ok (.istore_n 1, 1) := by decide +kernel
theorem dX4_hasBrokenCell_2 : decode cX4_hasBrokenCell 2 = .ok (.iload_n 1, 1) := by decide +kernel
theorem dX4_hasBrokenCell_3 : decode cX4_hasBrokenCell 3 = .ok (.aload_n 0, 1) := by decide +kernel
theorem dX4_hasBrokenCell_4 : decode cX4_hasBrokenCell 4 = .ok (.getfield 22, 3) := by decide +kernel
theorem dX4_hasBrokenCell_7 : decode cX4_hasBrokenCell 7 = .ok (.getfield 40, 3) := by decide +kernel
theorem dX4_hasBrokenCell_10 : decode cX4_hasBrokenCell 10 = .ok (.if_icmp .ge 76, 3) := by decide +kernel
theorem dX4_hasBrokenCell_13 : decode cX4_hasBrokenCell 13 = .ok (.aload_n 0, 1) := by decide +kernel
theorem dX4_hasBrokenCell_14 : decode cX4_hasBrokenCell 14 = .ok (.getfield 22, 3) := by decide +kernel
theorem dX4_hasBrokenCell_17 : decode cX4_hasBrokenCell 17 = .ok (.getfield 80, 3) := by decide +kernel
theorem dX4_hasBrokenCell_20 : decode cX4_hasBrokenCell 20 = .ok (.iload_n 1, 1) := by decide +kernel
theorem dX4_hasBrokenCell_21 : decode cX4_hasBrokenCell 21 = .ok (.iaload, 1) := by decide +kernel
theorem dX4_hasBrokenCell_22 : decode cX4_hasBrokenCell 22 = .ok (.istore_n 2, 1) := by decide +kernel
theorem dX4_hasBrokenCell_23 : decode cX4_hasBrokenCell 23 = .ok (.aload_n 0, 1) := by decide +kernel
theorem dX4_hasBrokenCell_24 : decode cX4_hasBrokenCell 24 = .ok (.getfield 26, 3) := by decide +kernel
theorem dX4_hasBrokenCell_27 : decode cX4_hasBrokenCell 27 = .ok (.aload_n 0, 1) := by decide +kernel
theorem dX4_hasBrokenCell_28 : decode cX4_hasBrokenCell 28 = .ok (.getfield 22, 3) := by decide +kernel
theorem dX4_hasBrokenCell_31 : decode cX4_hasBrokenCell 31 = .ok (.getfield 83, 3) := by decide +kernel
theorem dX4_hasBrokenCell_34 : decode cX4_hasBrokenCell 34 = .ok (.iload_n 1, 1) := by decide +kernel
theorem dX4_hasBrokenCell_35 : decode cX4_hasBrokenCell 35 = .ok (.laload, 1) := by decide +kernel
theorem dX4_hasBrokenCell_36 : decode cX4_hasBrokenCell 36 = .ok (.land, 1) := by decide +kernel
theorem dX4_hasBrokenCell_37 : decode cX4_hasBrokenCell 37 = .ok (.invokestatic 86, 3) := by decide +kernel
theorem dX4_hasBrokenCell_40 : decode cX4_hasBrokenCell 40 = .ok (.istore_n 3, 1) := by decide +kernel
theorem dX4_hasBrokenCell_41 : decode cX4_hasBrokenCell 41 = .ok (.iload_n 3, 1) := by decide +kernel
theorem dX4_hasBrokenCell_42 : decode cX4_hasBrokenCell 42 = .ok (.aload_n 0, 1) := by decide +kernel
theorem dX4_hasBrokenCell_43 : decode cX4_hasBrokenCell 43 = .ok (.getfield 37, 3) := by decide +kernel
theorem dX4_hasBrokenCell_46 : decode cX4_hasBrokenCell 46 = .ok (.aload_n 0, 1) := by decide +kernel
theorem dX4_hasBrokenCell_47 : decode cX4_hasBrokenCell 47 = .ok (.getfield 22, 3) := by decide +kernel
theorem dX4_hasBrokenCell_50 : decode cX4_hasBrokenCell 50 = .ok (.getfield 83, 3) := by decide +kernel
theorem dX4_hasBrokenCell_53 : decode cX4_hasBrokenCell 53 = .ok (.iload_n 1, 1) := by decide +kernel
theorem dX4_hasBrokenCell_54 : decode cX4_hasBrokenCell 54 = .ok (.laload, 1) := by decide +kernel
theorem dX4_hasBrokenCell_55 : decode cX4_hasBrokenCell 55 = .ok (.land, 1) := by decide +kernel
theorem dX4_hasBrokenCell_56 : decode cX4_hasBrokenCell 56 = .ok (.invokestatic 86, 3) := by decide +kernel
theorem dX4_hasBrokenCell_59 : decode cX4_hasBrokenCell 59 = .ok (.iadd, 1) := by decide +kernel
theorem dX4_hasBrokenCell_60 : decode cX4_hasBrokenCell 60 = .ok (.istore 4, 2) := by decide +kernel
theorem dX4_hasBrokenCell_62 : decode cX4_hasBrokenCell 62 = .ok (.iload_n 2, 1) := by decide +kernel
theorem dX4_hasBrokenCell_63 : decode cX4_hasBrokenCell 63 = .ok (.iconst (-1), 1) := by decide +kernel
theorem dX4_hasBrokenCell_64 : decode cX4_hasBrokenCell 64 = .ok (.if_icmp .eq 16, 3) := by decide +kernel
theorem dX4_hasBrokenCell_67 : decode cX4_hasBrokenCell 67 = .ok (.iload_n 3, 1) := by decide +kernel
theorem dX4_hasBrokenCell_68 : decode cX4_hasBrokenCell 68 = .ok (.iload_n 2, 1) := by decide +kernel
theorem dX4_hasBrokenCell_69 : decode cX4_hasBrokenCell 69 = .ok (.if_icmp .gt 9, 3) := by decide +kernel
theorem dX4_hasBrokenCell_72 : decode cX4_hasBrokenCell 72 = .ok (.iload 4, 2) := by decide +kernel
theorem dX4_hasBrokenCell_74 : decode cX4_hasBrokenCell 74 = .ok (.iload_n 2, 1) := by decide +kernel
theorem dX4_hasBrokenCell_75 : decode cX4_hasBrokenCell 75 = .ok (.if_icmp .ge 5, 3) := by decide +kernel
theorem dX4_hasBrokenCell_78 : decode cX4_hasBrokenCell 78 = .ok (.iconst 1, 1) := by decide +kernel
theorem dX4_hasBrokenCell_79 : decode cX4_hasBrokenCell 79 = .ok (.ireturn, 1) := by decide +kernel
theorem dX4_hasBrokenCell_80 : decode cX4_hasBrokenCell 80 = .ok (.iinc 1 1, 3) := by decide +kernel
theorem dX4_hasBrokenCell_83 : decode cX4_hasBrokenCell 83 = .ok (.goto (-81), 3) := by decide +kernel
theorem dX4_hasBrokenCell_86 : decode cX4_hasBrokenCell 86 = .ok (.iconst 0, 1) := by decide +kernel
theorem dX4_hasBrokenCell_87 : decode cX4_hasBrokenCell 87 = .ok (.ireturn, 1) := by decide +kernel
theorem dX4_hasBrokenPoint_0 : decode cX4_hasBrokenPoint 0 = .ok (.iconst 0, 1) := by decide +kernel
theorem dX4_hasBrokenPoint_1 : decode cX4_hasBrokenPoint 1 = .ok (.istore_n 1, 1) := by decide +kernel
theorem dX4_hasBrokenPoint_2 : decode cX4_hasBrokenPoint 2 = .ok (.iload_n 1, 1) := by decide +kernel
theorem dX4_hasBrokenPoint_3 : decode cX4_hasBrokenPoint 3 = .ok (.aload_n 0, 1) := by decide +kernel
theorem dX4_hasBrokenPoint_4 : decode cX4_hasBrokenPoint 4 = .ok (.getfield 22, 3) := by decide +kernel
theorem dX4_hasBrokenPoint_7 : decode cX4_hasBrokenPoint 7 = .ok (.getfield 92, 3) := by decide +kernel
theorem dX4_hasBrokenPoint_10 : decode cX4_hasBrokenPoint 10 = .ok (.if_icmp .ge 54, 3) := by decide +kernel
theorem dX4_hasBrokenPoint_13 : decode cX4_hasBrokenPoint 13 = .ok (.aload_n 0, 1) := by decide +kernel
theorem dX4_hasBrokenPoint_14 : decode cX4_hasBrokenPoint 14 = .ok (.getfield 26, 3) := by decide +kernel
theorem dX4_hasBrokenPoint_17 : decode cX4_hasBrokenPoint 17 = .ok (.aload_n 0, 1) := by decide +kernel
theorem dX4_hasBrokenPoint_18 : decode cX4_hasBrokenPoint 18 = .ok (.getfield 22, 3) := by decide +kernel
theorem dX4_hasBrokenPoint_21 : decode cX4_hasBrokenPoint 21 = .ok (.getfield 95, 3) := by decide +kernel
theorem dX4_hasBrokenPoint_24 : decode cX4_hasBrokenPoint 24 = .ok (.iload_n 1, 1) := by decide +kernel
theorem dX4_hasBrokenPoint_25 : decode cX4_hasBrokenPoint 25 = .ok (.laload, 1) := by decide +kernel
theorem dX4_hasBrokenPoint_26 : decode cX4_hasBrokenPoint 26 = .ok (.land, 1) := by decide +kernel
theorem dX4_hasBrokenPoint_27 : decode cX4_hasBrokenPoint 27 = .ok (.invokestatic 86, 3) := by decide +kernel
theorem dX4_hasBrokenPoint_30 : decode cX4_hasBrokenPoint 30 = .ok (.istore_n 2, 1) := by decide +kernel
theorem dX4_hasBrokenPoint_31 : decode cX4_hasBrokenPoint 31 = .ok (.iload_n 2, 1) := by decide +kernel
theorem dX4_hasBrokenPoint_32 : decode cX4_hasBrokenPoint 32 = .ok (.iconst 2, 1) := by decide +kernel
theorem dX4_hasBrokenPoint_33 : decode cX4_hasBrokenPoint 33 = .ok (.if_icmp .gt 23, 3) := by decide +kernel
theorem dX4_hasBrokenPoint_36 : decode cX4_hasBrokenPoint 36 = .ok (.iload_n 2, 1) := by decide +kernel
theorem dX4_hasBrokenPoint_37 : decode cX4_hasBrokenPoint 37 = .ok (.iconst 1, 1) := by decide +kernel
theorem dX4_hasBrokenPoint_38 : decode cX4_hasBrokenPoint 38 = .ok (.if_icmp .ne 20, 3) := by decide +kernel
theorem dX4_hasBrokenPoint_41 : decode cX4_hasBrokenPoint 41 = .ok (.aload_n 0, 1) := by decide +kernel
theorem dX4_hasBrokenPoint_42 : decode cX4_hasBrokenPoint 42 = .ok (.getfield 22, 3) := by decide +kernel
theorem dX4_hasBrokenPoint_45 : decode cX4_hasBrokenPoint 45 = .ok (.aload_n 0, 1) := by decide +kernel
theorem dX4_hasBrokenPoint_46 : decode cX4_hasBrokenPoint 46 = .ok (.getfield 37, 3) := by decide +kernel
theorem dX4_hasBrokenPoint_49 : decode cX4_hasBrokenPoint 49 = .ok (.iload_n 1, 1) := by decide +kernel
theorem dX4_hasBrokenPoint_50 : decode cX4_hasBrokenPoint 50 = .ok (.invokevirtual 98, 3) := by decide +kernel
theorem dX4_hasBrokenPoint_53 : decode cX4_hasBrokenPoint 53 = .ok (.ifCond .ne 5, 3) := by decide +kernel
theorem dX4_hasBrokenPoint_56 : decode cX4_hasBrokenPoint 56 = .ok (.iconst 1, 1) := by decide +kernel
theorem dX4_hasBrokenPoint_57 : decode cX4_hasBrokenPoint 57 = .ok (.ireturn, 1) := by decide +kernel
theorem dX4_hasBrokenPoint_58 : decode cX4_hasBrokenPoint 58 = .ok (.iinc 1 1, 3) := by decide +kernel
theorem dX4_hasBrokenPoint_61 : decode cX4_hasBrokenPoint 61 = .ok (.goto (-59), 3) := by decide +kernel
theorem dX4_hasBrokenPoint_64 : decode cX4_hasBrokenPoint 64 = .ok (.iconst 0, 1) := by decide +kernel
theorem dX4_hasBrokenPoint_65 : decode cX4_hasBrokenPoint 65 = .ok (.ireturn, 1) := by decide +kernel
theorem dX4_hasBrokenLoop_0 : decode cX4_hasBrokenLoop 0 = .ok (.aload_n 0, 1) := by decide +kernel
theorem dX4_hasBrokenLoop_1 : decode cX4_hasBrokenLoop 1 = .ok (.getfield 26, 3) := by decide +kernel
theorem dX4_hasBrokenLoop_4 : decode cX4_hasBrokenLoop 4 = .ok (.lstore_n 1, 1) := by decide +kernel
theorem dX4_hasBrokenLoop_5 : decode cX4_hasBrokenLoop 5 = .ok (.iconst 0, 1) := by decide +kernel
theorem dX4_hasBrokenLoop_6 : decode cX4_hasBrokenLoop 6 = .ok (.istore_n 3, 1) := by decide +kernel
theorem dX4_hasBrokenLoop_7 : decode cX4_hasBrokenLoop 7 = .ok (.iload_n 3, 1) := by decide +kernel
theorem dX4_hasBrokenLoop_8 : decode cX4_hasBrokenLoop 8 = .ok (.bipush 40, 2) := by decide +kernel
theorem dX4_hasBrokenLoop_10 : decode cX4_hasBrokenLoop 10 = .ok (.if_icmp .ge 73, 3) := by decide +kernel
theorem dX4_hasBrokenLoop_13 : decode cX4_hasBrokenLoop 13 = .ok (.lload_n 1, 1) := by decide +kernel
theorem dX4_hasBrokenLoop_14 : decode cX4_hasBrokenLoop 14 = .ok (.lconst 0, 1) := by decide +kernel
theorem dX4_hasBrokenLoop_15 : decode cX4_hasBrokenLoop 15 = .ok (.lcmp, 1) := by decide +kernel
theorem dX4_hasBrokenLoop_16 : decode cX4_hasBrokenLoop 16 = .ok (.ifCond .eq 67, 3) := by decide +kernel
theorem dX4_hasBrokenLoop_19 : decode cX4_hasBrokenLoop 19 = .ok (.aload_n 0, 1) := by decide +kernel
theorem dX4_hasBrokenLoop_20 : decode cX4_hasBrokenLoop 20 = .ok (.getfield 22, 3) := by decide +kernel
theorem dX4_hasBrokenLoop_23 : decode cX4_hasBrokenLoop 23 = .ok (.lload_n 1, 1) := by decide +kernel
end
section
theorem dX4_hasBrokenLoop_24 : decode cX4_hasBrokenLoop 24 = .ok (.invokevirtual 101, 3) := by decide +kernel
theorem dX4_hasBrokenLoop_27 : decode cX4_hasBrokenLoop 27 = .ok (.lstore 4, 2) := by decide +kernel
theorem dX4_hasBrokenLoop_29 : decode cX4_hasBrokenLoop 29 = .ok (.lload_n 1, 1) := by decide +kernel
theorem dX4_hasBrokenLoop_30 : decode cX4_hasBrokenLoop 30 = .ok (.lload 4, 2) := by decide +kernel
theorem dX4_hasBrokenLoop_32 : decode cX4_hasBrokenLoop 32 = .ok (.ldc2_w 35, 3) := by decide +kernel
theorem dX4_hasBrokenLoop_35 : decode cX4_hasBrokenLoop 35 = .ok (.lxor, 1) := by decide +kernel
theorem dX4_hasBrokenLoop_36 : decode cX4_hasBrokenLoop 36 = .ok (.land, 1) := by decide +kernel
theorem dX4_hasBrokenLoop_37 : decode cX4_hasBrokenLoop 37 = .ok (.lstore_n 1, 1) := by decide +kernel
theorem dX4_hasBrokenLoop_38 : decode cX4_hasBrokenLoop 38 = .ok (.aload_n 0, 1) := by decide +kernel
theorem dX4_hasBrokenLoop_39 : decode cX4_hasBrokenLoop 39 = .ok (.getfield 22, 3) := by decide +kernel
theorem dX4_hasBrokenLoop_42 : decode cX4_hasBrokenLoop 42 = .ok (.lload 4, 2) := by decide +kernel
theorem dX4_hasBrokenLoop_44 : decode cX4_hasBrokenLoop 44 = .ok (.invokevirtual 105, 3) := by decide +kernel
theorem dX4_hasBrokenLoop_47 : decode cX4_hasBrokenLoop 47 = .ok (.ifCond .eq 30, 3) := by decide +kernel
theorem dX4_hasBrokenLoop_50 : decode cX4_hasBrokenLoop 50 = .ok (.lload 4, 2) := by decide +kernel
theorem dX4_hasBrokenLoop_52 : decode cX4_hasBrokenLoop 52 = .ok (.aload_n 0, 1) := by decide +kernel
theorem dX4_hasBrokenLoop_53 : decode cX4_hasBrokenLoop 53 = .ok (.getfield 26, 3) := by decide +kernel
theorem dX4_hasBrokenLoop_56 : decode cX4_hasBrokenLoop 56 = .ok (.lcmp, 1) := by decide +kernel
theorem dX4_hasBrokenLoop_57 : decode cX4_hasBrokenLoop 57 = .ok (.ifCond .ne 18, 3) := by decide +kernel
theorem dX4_hasBrokenLoop_60 : decode cX4_hasBrokenLoop 60 = .ok (.aload_n 0, 1) := by decide +kernel
theorem dX4_hasBrokenLoop_61 : decode cX4_hasBrokenLoop 61 = .ok (.getfield 22, 3) := by decide +kernel
theorem dX4_hasBrokenLoop_64 : decode cX4_hasBrokenLoop 64 = .ok (.aload_n 0, 1) := by decide +kernel
theorem dX4_hasBrokenLoop_65 : decode cX4_hasBrokenLoop 65 = .ok (.getfield 26, 3) := by decide +kernel
theorem dX4_hasBrokenLoop_68 : decode cX4_hasBrokenLoop 68 = .ok (.iconst (-1), 1) := by decide +kernel
theorem dX4_hasBrokenLoop_69 : decode cX4_hasBrokenLoop 69 = .ok (.invokevirtual 109, 3) := by decide +kernel
theorem dX4_hasBrokenLoop_72 : decode cX4_hasBrokenLoop 72 = .ok (.ifCond .ne 5, 3) := by decide +kernel
theorem dX4_hasBrokenLoop_75 : decode cX4_hasBrokenLoop 75 = .ok (.iconst 1, 1) := by decide +kernel
theorem dX4_hasBrokenLoop_76 : decode cX4_hasBrokenLoop 76 = .ok (.ireturn, 1) := by decide +kernel
theorem dX4_hasBrokenLoop_77 : decode cX4_hasBrokenLoop 77 = .ok (.iinc 3 1, 3) := by decide +kernel
theorem dX4_hasBrokenLoop_80 : decode cX4_hasBrokenLoop 80 = .ok (.goto (-73), 3) := by decide +kernel
theorem dX4_hasBrokenLoop_83 : decode cX4_hasBrokenLoop 83 = .ok (.iconst 0, 1) := by decide +kernel
theorem dX4_hasBrokenLoop_84 : decode cX4_hasBrokenLoop 84 = .ok (.ireturn, 1) := by decide +kernel
theorem dX4_askRules_0 : decode cX4_askRules 0 = .ok (.aload_n 0, 1) := by decide +kernel
theorem dX4_askRules_1 : decode cX4_askRules 1 = .ok (.getfield 18, 3) := by decide +kernel
theorem dX4_askRules_4 : decode cX4_askRules 4 = .ok (.lconst 0, 1) := by decide +kernel
theorem dX4_askRules_5 : decode cX4_askRules 5 = .ok (.invokestatic 112, 3) := by decide +kernel
theorem dX4_askRules_8 : decode cX4_askRules 8 = .ok (.aload_n 0, 1) := by decide +kernel
theorem dX4_askRules_9 : decode cX4_askRules 9 = .ok (.lconst 0, 1) := by decide +kernel
theorem dX4_askRules_10 : decode cX4_askRules 10 = .ok (.putfield 118, 3) := by decide +kernel
theorem dX4_askRules_13 : decode cX4_askRules 13 = .ok (.aload_n 0, 1) := by decide +kernel
theorem dX4_askRules_14 : decode cX4_askRules 14 = .ok (.lconst 0, 1) := by decide +kernel
theorem dX4_askRules_15 : decode cX4_askRules 15 = .ok (.putfield 121, 3) := by decide +kernel
theorem dX4_askRules_18 : decode cX4_askRules 18 = .ok (.aload_n 0, 1) := by decide +kernel
theorem dX4_askRules_19 : decode cX4_askRules 19 = .ok (.invokevirtual 124, 3) := by decide +kernel
theorem dX4_askRules_22 : decode cX4_askRules 22 = .ok (.aload_n 0, 1) := by decide +kernel
theorem dX4_askRules_23 : decode cX4_askRules 23 = .ok (.invokevirtual 127, 3) := by decide +kernel
theorem dX4_askRules_26 : decode cX4_askRules 26 = .ok (.aload_n 0, 1) := by decide +kernel
theorem dX4_askRules_27 : decode cX4_askRules 27 = .ok (.invokevirtual 130, 3) := by decide +kernel
theorem dX4_askRules_30 : decode cX4_askRules 30 = .ok (.aload_n 0, 1) := by decide +kernel
theorem dX4_askRules_31 : decode cX4_askRules 31 = .ok (.invokevirtual 133, 3) := by decide +kernel
theorem dX4_askRules_34 : decode cX4_askRules 34 = .ok (.return_, 1) := by decide +kernel
theorem dX4_want_0 : decode cX4_want 0 = .ok (.lload_n 3, 1) := by decide +kernel
theorem dX4_want_1 : decode cX4_want 1 = .ok (.aload_n 0, 1) := by decide +kernel
theorem dX4_want_2 : decode cX4_want 2 = .ok (.getfield 37, 3) := by decide +kernel
theorem dX4_want_5 : decode cX4_want 5 = .ok (.land, 1) := by decide +kernel
theorem dX4_want_6 : decode cX4_want 6 = .ok (.lstore 5, 2) := by decide +kernel
theorem dX4_want_8 : decode cX4_want 8 = .ok (.aload_n 0, 1) := by decide +kernel
theorem dX4_want_9 : decode cX4_want 9 = .ok (.getfield 18, 3) := by decide +kernel
theorem dX4_want_12 : decode cX4_want 12 = .ok (.iload_n 1, 1) := by decide +kernel
theorem dX4_want_13 : decode cX4_want 13 = .ok (.dup2, 1) := by decide +kernel
theorem dX4_want_14 : decode cX4_want 14 = .ok (.laload, 1) := by decide +kernel
theorem dX4_want_15 : decode cX4_want 15 = .ok (.lload 5, 2) := by decide +kernel
theorem dX4_want_17 : decode cX4_want 17 = .ok (.lor, 1) := by decide +kernel
theorem dX4_want_18 : decode cX4_want 18 = .ok (.lastore, 1) := by decide +kernel
theorem dX4_want_19 : decode cX4_want 19 = .ok (.iload_n 2, 1) := by decide +kernel
theorem dX4_want_20 : decode cX4_want 20 = .ok (.iconst 1, 1) := by decide +kernel
theorem dX4_want_21 : decode cX4_want 21 = .ok (.if_icmp .ne 17, 3) := by decide +kernel
theorem dX4_want_24 : decode cX4_want 24 = .ok (.aload_n 0, 1) := by decide +kernel
theorem dX4_want_25 : decode cX4_want 25 = .ok (.dup, 1) := by decide +kernel
theorem dX4_want_26 : decode cX4_want 26 = .ok (.getfield 118, 3) := by decide +kernel
theorem dX4_want_29 : decode cX4_want 29 = .ok (.lload 5, 2) := by decide +kernel
theorem dX4_want_31 : decode cX4_want 31 = .ok (.lor, 1) := by decide +kernel
theorem dX4_want_32 : decode cX4_want 32 = .ok (.putfield 118, 3) := by decide +kernel
theorem dX4_want_35 : decode cX4_want 35 = .ok (.goto 14, 3) := by decide +kernel
theorem dX4_want_38 : decode cX4_want 38 = .ok (.aload_n 0, 1) := by decide +kernel
theorem dX4_want_39 : decode cX4_want 39 = .ok (.dup, 1) := by decide +kernel
theorem dX4_want_40 : decode cX4_want 40 = .ok (.getfield 121, 3) := by decide +kernel
theorem dX4_want_43 : decode cX4_want 43 = .ok (.lload 5, 2) := by decide +kernel
theorem dX4_want_45 : decode cX4_want 45 = .ok (.lor, 1) := by decide +kernel
theorem dX4_want_46 : decode cX4_want 46 = .ok (.putfield 121, 3) := by decide +kernel
theorem dX4_want_49 : decode cX4_want 49 = .ok (.return_, 1) := by decide +kernel
theorem dX4_askCells_0 : decode cX4_askCells 0 = .ok (.iconst 0, 1) := by decide +kernel
theorem dX4_askCells_1 : decode cX4_askCells 1 = .ok (.istore_n 1, 1) := by decide +kernel
theorem dX4_askCells_2 : decode cX4_askCells 2 = .ok (.iload_n 1, 1) := by decide +kernel
theorem dX4_askCells_3 : decode cX4_askCells 3 = .ok (.aload_n 0, 1) := by decide +kernel
theorem dX4_askCells_4 : decode cX4_askCells 4 = .ok (.getfield 22, 3) := by decide +kernel
theorem dX4_askCells_7 : decode cX4_askCells 7 = .ok (.getfield 40, 3) := by decide +kernel
theorem dX4_askCells_10 : decode cX4_askCells 10 = .ok (.if_icmp .ge 91, 3) := by decide +kernel
theorem dX4_askCells_13 : decode cX4_askCells 13 = .ok (.aload_n 0, 1) := by decide +kernel
theorem dX4_askCells_14 : decode cX4_askCells 14 = .ok (.getfield 22, 3) := by decide +kernel
theorem dX4_askCells_17 : decode cX4_askCells 17 = .ok (.getfield 83, 3) := by decide +kernel
theorem dX4_askCells_20 : decode cX4_askCells 20 = .ok (.iload_n 1, 1) := by decide +kernel
theorem dX4_askCells_21 : decode cX4_askCells 21 = .ok (.laload, 1) := by decide +kernel
theorem dX4_askCells_22 : decode cX4_askCells 22 = .ok (.lstore_n 2, 1) := by decide +kernel
theorem dX4_askCells_23 : decode cX4_askCells 23 = .ok (.aload_n 0, 1) := by decide +kernel
theorem dX4_askCells_24 : decode cX4_askCells 24 = .ok (.getfield 22, 3) := by decide +kernel
theorem dX4_askCells_27 : decode cX4_askCells 27 = .ok (.getfield 80, 3) := by decide +kernel
theorem dX4_askCells_30 : decode cX4_askCells 30 = .ok (.iload_n 1, 1) := by decide +kernel
theorem dX4_askCells_31 : decode cX4_askCells 31 = .ok (.iaload, 1) := by decide +kernel
theorem dX4_askCells_32 : decode cX4_askCells 32 = .ok (.istore 4, 2) := by decide +kernel
theorem dX4_askCells_34 : decode cX4_askCells 34 = .ok (.aload_n 0, 1) := by decide +kernel
theorem dX4_askCells_35 : decode cX4_askCells 35 = .ok (.getfield 26, 3) := by decide +kernel
theorem dX4_askCells_38 : decode cX4_askCells 38 = .ok (.lload_n 2, 1) := by decide +kernel
theorem dX4_askCells_39 : decode cX4_askCells 39 = .ok (.land, 1) := by decide +kernel
theorem dX4_askCells_40 : decode cX4_askCells 40 = .ok (.invokestatic 86, 3) := by decide +kernel
theorem dX4_askCells_43 : decode cX4_askCells 43 = .ok (.istore 5, 2) := by decide +kernel
theorem dX4_askCells_45 : decode cX4_askCells 45 = .ok (.iload 4, 2) := by decide +kernel
theorem dX4_askCells_47 : decode cX4_askCells 47 = .ok (.iconst (-1), 1) := by decide +kernel
theorem dX4_askCells_48 : decode cX4_askCells 48 = .ok (.if_icmp .eq 17, 3) := by decide +kernel
theorem dX4_askCells_51 : decode cX4_askCells 51 = .ok (.iload 5, 2) := by decide +kernel
theorem dX4_askCells_53 : decode cX4_askCells 53 = .ok (.iload 4, 2) := by decide +kernel
theorem dX4_askCells_55 : decode cX4_askCells 55 = .ok (.if_icmp .ne 10, 3) := by decide +kernel
theorem dX4_askCells_58 : decode cX4_askCells 58 = .ok (.aload_n 0, 1) := by decide +kernel
theorem dX4_askCells_59 : decode cX4_askCells 59 = .ok (.iconst 1, 1) := by decide +kernel
theorem dX4_askCells_60 : decode cX4_askCells 60 = .ok (.iconst 2, 1) := by decide +kernel
theorem dX4_askCells_61 : decode cX4_askCells 61 = .ok (.lload_n 2, 1) := by decide +kernel
theorem dX4_askCells_62 : decode cX4_askCells 62 = .ok (.invokevirtual 136, 3) := by decide +kernel
theorem dX4_askCells_65 : decode cX4_askCells 65 = .ok (.iload 4, 2) := by decide +kernel
theorem dX4_askCells_67 : decode cX4_askCells 67 = .ok (.iconst (-1), 1) := by decide +kernel
theorem dX4_askCells_68 : decode cX4_askCells 68 = .ok (.if_icmp .eq 27, 3) := by decide +kernel
theorem dX4_askCells_71 : decode cX4_askCells 71 = .ok (.iload 5, 2) := by decide +kernel
theorem dX4_askCells_73 : decode cX4_askCells 73 = .ok (.aload_n 0, 1) := by decide +kernel
theorem dX4_askCells_74 : decode cX4_askCells 74 = .ok (.getfield 37, 3) := by decide +kernel
theorem dX4_askCells_77 : decode cX4_askCells 77 = .ok (.lload_n 2, 1) := by decide +kernel
theorem dX4_askCells_78 : decode cX4_askCells 78 = .ok (.land, 1) := by decide +kernel
theorem dX4_askCells_79 : decode cX4_askCells 79 = .ok (.invokestatic 86, 3) := by decide +kernel
theorem dX4_askCells_82 : decode cX4_askCells 82 = .ok (.iadd, 1) := by decide +kernel
theorem dX4_askCells_83 : decode cX4_askCells 83 = .ok (.iload 4, 2) := by decide +kernel
theorem dX4_askCells_85 : decode cX4_askCells 85 = .ok (.if_icmp .ne 10, 3) := by decide +kernel
theorem dX4_askCells_88 : decode cX4_askCells 88 = .ok (.aload_n 0, 1) := by decide +kernel
theorem dX4_askCells_89 : decode cX4_askCells 89 = .ok (.iconst 2, 1) := by decide +kernel
theorem dX4_askCells_90 : decode cX4_askCells 90 = .ok (.iconst 1, 1) := by decide +kernel
theorem dX4_askCells_91 : decode cX4_askCells 91 = .ok (.lload_n 2, 1) := by decide +kernel
theorem dX4_askCells_92 : decode cX4_askCells 92 = .ok (.invokevirtual 136, 3) := by decide +kernel
theorem dX4_askCells_95 : decode cX4_askCells 95 = .ok (.iinc 1 1, 3) := by decide +kernel
theorem dX4_askCells_98 : decode cX4_askCells 98 = .ok (.goto (-96), 3) := by decide +kernel
theorem dX4_askCells_101 : decode cX4_askCells 101 = .ok (.return_, 1) := by decide +kernel
theorem dX4_askPoints_0 : decode cX4_askPoints 0 = .ok (.iconst 0, 1) := by decide +kernel
theorem dX4_askPoints_1 : decode cX4_askPoints 1 = .ok (.istore_n 1, 1) := by decide +kernel
theorem dX4_askPoints_2 : decode cX4_askPoints 2 = .ok (.iload_n 1, 1) := by decide +kernel
theorem dX4_askPoints_3 : decode cX4_askPoints 3 = .ok (.aload_n 0, 1) := by decide +kernel
theorem dX4_askPoints_4 : decode cX4_askPoints 4 = .ok (.getfield 22, 3) := by decide +kernel
theorem dX4_askPoints_7 : decode cX4_askPoints 7 = .ok (.getfield 92, 3) := by decide +kernel
theorem dX4_askPoints_10 : decode cX4_askPoints 10 = .ok (.if_icmp .ge 91, 3) := by decide +kernel
theorem dX4_askPoints_13 : decode cX4_askPoints 13 = .ok (.aload_n 0, 1) := by decide +kernel
theorem dX4_askPoints_14 : decode cX4_askPoints 14 = .ok (.getfield 22, 3) := by decide +kernel
theorem dX4_askPoints_17 : decode cX4_askPoints 17 = .ok (.getfield 95, 3) := by decide +kernel
theorem dX4_askPoints_20 : decode cX4_askPoints 20 = .ok (.iload_n 1, 1) := by decide +kernel
theorem dX4_askPoints_21 : decode cX4_askPoints 21 = .ok (.laload, 1) := by decide +kernel
theorem dX4_askPoints_22 : decode cX4_askPoints 22 = .ok (.lstore_n 2, 1) := by decide +kernel
theorem dX4_askPoints_23 : decode cX4_askPoints 23 = .ok (.aload_n 0, 1) := by decide +kernel
theorem dX4_askPoints_24 : decode cX4_askPoints 24 = .ok (.getfield 26, 3) := by decide +kernel
theorem dX4_askPoints_27 : decode cX4_askPoints 27 = .ok (.lload_n 2, 1) := by decide +kernel
theorem dX4_askPoints_28 : decode cX4_askPoints 28 = .ok (.land, 1) := by decide +kernel
theorem dX4_askPoints_29 : decode cX4_askPoints 29 = .ok (.invokestatic 86, 3) := by decide +kernel
theorem dX4_askPoints_32 : decode cX4_askPoints 32 = .ok (.istore 4, 2) := by decide +kernel
theorem dX4_askPoints_34 : decode cX4_askPoints 34 = .ok (.aload_n 0, 1) := by decide +kernel
theorem dX4_askPoints_35 : decode cX4_askPoints 35 = .ok (.getfield 37, 3) := by decide +kernel
theorem dX4_askPoints_38 : decode cX4_askPoints 38 = .ok (.lload_n 2, 1) := by decide +kernel
theorem dX4_askPoints_39 : decode cX4_askPoints 39 = .ok (.land, 1) := by decide +kernel
theorem dX4_askPoints_40 : decode cX4_askPoints 40 = .ok (.invokestatic 86, 3) := by decide +kernel
theorem dX4_askPoints_43 : decode cX4_askPoints 43 = .ok (.istore 5, 2) := by decide +kernel
theorem dX4_askPoints_45 : decode cX4_askPoints 45 = .ok (.iload 4, 2) := by decide +kernel
theorem dX4_askPoints_47 : decode cX4_askPoints 47 = .ok (.iconst 2, 1) := by decide +kernel
theorem dX4_askPoints_48 : decode cX4_askPoints 48 = .ok (.if_icmp .ne 10, 3) := by decide +kernel
theorem dX4_askPoints_51 : decode cX4_askPoints 51 = .ok (.aload_n 0, 1) := by decide +kernel
theorem dX4_askPoints_52 : decode cX4_askPoints 52 = .ok (.iconst 3, 1) := by decide +kernel
theorem dX4_askPoints_53 : decode cX4_askPoints 53 = .ok (.iconst 2, 1) := by decide +kernel
theorem dX4_askPoints_54 : decode cX4_askPoints 54 = .ok (.lload_n 2, 1) := by decide +kernel
theorem dX4_askPoints_55 : decode cX4_askPoints 55 = .ok (.invokevirtual 136, 3) := by decide +kernel
theorem dX4_askPoints_58 : decode cX4_askPoints 58 = .ok (.iload 4, 2) := by decide +kernel
theorem dX4_askPoints_60 : decode cX4_askPoints 60 = .ok (.iconst 1, 1) := by decide +kernel
theorem dX4_askPoints_61 : decode cX4_askPoints 61 = .ok (.if_icmp .ne 16, 3) := by decide +kernel
theorem dX4_askPoints_64 : decode cX4_askPoints 64 = .ok (.iload 5, 2) := by decide +kernel
theorem dX4_askPoints_66 : decode cX4_askPoints 66 = .ok (.iconst 1, 1) := by decide +kernel
theorem dX4_askPoints_67 : decode cX4_askPoints 67 = .ok (.if_icmp .ne 10, 3) := by decide +kernel
theorem dX4_askPoints_70 : decode cX4_askPoints 70 = .ok (.aload_n 0, 1) := by decide +kernel
theorem dX4_askPoints_71 : decode cX4_askPoints 71 = .ok (.iconst 4, 1) := by decide +kernel
theorem dX4_askPoints_72 : decode cX4_askPoints 72 = .ok (.iconst 1, 1) := by decide +kernel
theorem dX4_askPoints_73 : decode cX4_askPoints 73 = .ok (.lload_n 2, 1) := by decide +kernel
theorem dX4_askPoints_74 : decode cX4_askPoints 74 = .ok (.invokevirtual 136, 3) := by decide +kernel
theorem dX4_askPoints_77 : decode cX4_askPoints 77 = .ok (.iload 4, 2) := by decide +kernel
theorem dX4_askPoints_79 : decode cX4_askPoints 79 = .ok (.ifCond .ne 16, 3) := by decide +kernel
theorem dX4_askPoints_82 : decode cX4_askPoints 82 = .ok (.iload 5, 2) := by decide +kernel
theorem dX4_askPoints_84 : decode cX4_askPoints 84 = .ok (.iconst 1, 1) := by decide +kernel
theorem dX4_askPoints_85 : decode cX4_askPoints 85 = .ok (.if_icmp .ne 10, 3) := by decide +kernel
theorem dX4_askPoints_88 : decode cX4_askPoints 88 = .ok (.aload_n 0, 1) := by decide +kernel
theorem dX4_askPoints_89 : decode cX4_askPoints 89 = .ok (.iconst 5, 1) := by decide +kernel
theorem dX4_askPoints_90 : decode cX4_askPoints 90 = .ok (.iconst 2, 1) := by decide +kernel
theorem dX4_askPoints_91 : decode cX4_askPoints 91 = .ok (.lload_n 2, 1) := by decide +kernel
theorem dX4_askPoints_92 : decode cX4_askPoints 92 = .ok (.invokevirtual 136, 3) := by decide +kernel
theorem dX4_askPoints_95 : decode cX4_askPoints 95 = .ok (.iinc 1 1, 3) := by decide +kernel
theorem dX4_askPoints_98 : decode cX4_askPoints 98 = .ok (.goto (-96), 3) := by decide +kernel
theorem dX4_askPoints_101 : decode cX4_askPoints 101 = .ok (.return_, 1) := by decide +kernel
theorem dX4_askWays_0 : decode cX4_askWays 0 = .ok (.aload_n 0, 1) := by decide +kernel
theorem dX4_askWays_1 : decode cX4_askWays 1 = .ok (.getfield 26, 3) := by decide +kernel
theorem dX4_askWays_4 : decode cX4_askWays 4 = .ok (.lstore_n 1, 1) := by decide +kernel
theorem dX4_askWays_5 : decode cX4_askWays 5 = .ok (.iconst 0, 1) := by decide +kernel
theorem dX4_askWays_6 : decode cX4_askWays 6 = .ok (.istore_n 3, 1) := by decide +kernel
theorem dX4_askWays_7 : decode cX4_askWays 7 = .ok (.iload_n 3, 1) := by decide +kernel
theorem dX4_askWays_8 : decode cX4_askWays 8 = .ok (.bipush 40, 2) := by decide +kernel
theorem dX4_askWays_10 : decode cX4_askWays 10 = .ok (.if_icmp .ge 128, 3) := by decide +kernel
theorem dX4_askWays_13 : decode cX4_askWays 13 = .ok (.lload_n 1, 1) := by decide +kernel
theorem dX4_askWays_14 : decode cX4_askWays 14 = .ok (.lconst 0, 1) := by decide +kernel
theorem dX4_askWays_15 : decode cX4_askWays 15 = .ok (.lcmp, 1) := by decide +kernel
theorem dX4_askWays_16 : decode cX4_askWays 16 = .ok (.ifCond .eq 122, 3) := by decide +kernel
theorem dX4_askWays_19 : decode cX4_askWays 19 = .ok (.aload_n 0, 1) := by decide +kernel
theorem dX4_askWays_20 : decode cX4_askWays 20 = .ok (.getfield 22, 3) := by decide +kernel
theorem dX4_askWays_23 : decode cX4_askWays 23 = .ok (.lload_n 1, 1) := by decide +kernel
theorem dX4_askWays_24 : decode cX4_askWays 24 = .ok (.invokevirtual 101, 3) := by decide +kernel
theorem dX4_askWays_27 : decode cX4_askWays 27 = .ok (.lstore 4, 2) := by decide +kernel
theorem dX4_askWays_29 : decode cX4_askWays 29 = .ok (.lload_n 1, 1) := by decide +kernel
theorem dX4_askWays_30 : decode cX4_askWays 30 = .ok (.lload 4, 2) := by decide +kernel
theorem dX4_askWays_32 : decode cX4_askWays 32 = .ok (.ldc2_w 35, 3) := by decide +kernel
theorem dX4_askWays_35 : decode cX4_askWays 35 = .ok (.lxor, 1) := by decide +kernel
theorem dX4_askWays_36 : decode cX4_askWays 36 = .ok (.land, 1) := by decide +kernel
theorem dX4_askWays_37 : decode cX4_askWays 37 = .ok (.lstore_n 1, 1) := by decide +kernel
theorem dX4_askWays_38 : decode cX4_askWays 38 = .ok (.iconst 0, 1) := by decide +kernel
theorem dX4_askWays_39 : decode cX4_askWays 39 = .ok (.istore 6, 2) := by decide +kernel
theorem dX4_askWays_41 : decode cX4_askWays 41 = .ok (.iload 6, 2) := by decide +kernel
theorem dX4_askWays_43 : decode cX4_askWays 43 = .ok (.aload_n 0, 1) := by decide +kernel
theorem dX4_askWays_44 : decode cX4_askWays 44 = .ok (.getfield 22, 3) := by decide +kernel
theorem dX4_askWays_47 : decode cX4_askWays 47 = .ok (.getfield 48, 3) := by decide +kernel
theorem dX4_askWays_50 : decode cX4_askWays 50 = .ok (.if_icmp .ge 82, 3) := by decide +kernel
theorem dX4_askWays_53 : decode cX4_askWays 53 = .ok (.aload_n 0, 1) := by decide +kernel
theorem dX4_askWays_54 : decode cX4_askWays 54 = .ok (.getfield 26, 3) := by decide +kernel
theorem dX4_askWays_57 : decode cX4_askWays 57 = .ok (.lconst 1, 1) := by decide +kernel
theorem dX4_askWays_58 : decode cX4_askWays 58 = .ok (.iload 6, 2) := by decide +kernel
theorem dX4_askWays_60 : decode cX4_askWays 60 = .ok (.lshl, 1) := by decide +kernel
theorem dX4_askWays_61 : decode cX4_askWays 61 = .ok (.lor, 1) := by decide +kernel
theorem dX4_askWays_62 : decode cX4_askWays 62 = .ok (.lstore 7, 2) := by decide +kernel
theorem dX4_askWays_64 : decode cX4_askWays 64 = .ok (.aload_n 0, 1) := by decide +kernel
theorem dX4_askWays_65 : decode cX4_askWays 65 = .ok (.getfield 37, 3) := by decide +kernel
theorem dX4_askWays_68 : decode cX4_askWays 68 = .ok (.iload 6, 2) := by decide +kernel
theorem dX4_askWays_70 : decode cX4_askWays 70 = .ok (.invokestatic 51, 3) := by decide +kernel
theorem dX4_askWays_73 : decode cX4_askWays 73 = .ok (.ifCond .eq 53, 3) := by decide +kernel
theorem dX4_askWays_76 : decode cX4_askWays 76 = .ok (.aload_n 0, 1) := by decide +kernel
theorem dX4_askWays_77 : decode cX4_askWays 77 = .ok (.getfield 22, 3) := by decide +kernel
theorem dX4_askWays_80 : decode cX4_askWays 80 = .ok (.lload 4, 2) := by decide +kernel
theorem dX4_askWays_82 : decode cX4_askWays 82 = .ok (.iload 6, 2) := by decide +kernel
theorem dX4_askWays_84 : decode cX4_askWays 84 = .ok (.invokevirtual 140, 3) := by decide +kernel
theorem dX4_askWays_87 : decode cX4_askWays 87 = .ok (.ifCond .eq 39, 3) := by decide +kernel
theorem dX4_askWays_90 : decode cX4_askWays 90 = .ok (.aload_n 0, 1) := by decide +kernel
theorem dX4_askWays_91 : decode cX4_askWays 91 = .ok (.getfield 22, 3) := by decide +kernel
theorem dX4_askWays_94 : decode cX4_askWays 94 = .ok (.lload 7, 2) := by decide +kernel
theorem dX4_askWays_96 : decode cX4_askWays 96 = .ok (.invokevirtual 105, 3) := by decide +kernel
theorem dX4_askWays_99 : decode cX4_askWays 99 = .ok (.ifCond .eq 16, 3) := by decide +kernel
theorem dX4_askWays_102 : decode cX4_askWays 102 = .ok (.aload_n 0, 1) := by decide +kernel
theorem dX4_askWays_103 : decode cX4_askWays 103 = .ok (.getfield 22, 3) := by decide +kernel
theorem dX4_askWays_106 : decode cX4_askWays 106 = .ok (.lload 7, 2) := by decide +kernel
theorem dX4_askWays_108 : decode cX4_askWays 108 = .ok (.iconst (-1), 1) := by decide +kernel
theorem dX4_askWays_109 : decode cX4_askWays 109 = .ok (.invokevirtual 109, 3) := by decide +kernel
theorem dX4_askWays_112 : decode cX4_askWays 112 = .ok (.ifCond .ne 14, 3) := by decide +kernel
theorem dX4_askWays_115 : decode cX4_askWays 115 = .ok (.aload_n 0, 1) := by decide +kernel
theorem dX4_askWays_116 : decode cX4_askWays 116 = .ok (.bipush 6, 2) := by decide +kernel
theorem dX4_askWays_118 : decode cX4_askWays 118 = .ok (.iconst 2, 1) := by decide +kernel
theorem dX4_askWays_119 : decode cX4_askWays 119 = .ok (.lconst 1, 1) := by decide +kernel
theorem dX4_askWays_120 : decode cX4_askWays 120 = .ok (.iload 6, 2) := by decide +kernel
theorem dX4_askWays_122 : decode cX4_askWays 122 = .ok (.lshl, 1) := by decide +kernel
theorem dX4_askWays_123 : decode cX4_askWays 123 = .ok (.invokevirtual 136, 3) := by decide +kernel
theorem dX4_askWays_126 : decode cX4_askWays 126 = .ok (.iinc 6 1, 3) := by decide +kernel
theorem dX4_askWays_129 : decode cX4_askWays 129 = .ok (.goto (-88), 3) := by decide +kernel
theorem dX4_askWays_132 : decode cX4_askWays 132 = .ok (.iinc 3 1, 3) := by decide +kernel
theorem dX4_askWays_135 : decode cX4_askWays 135 = .ok (.goto (-128), 3) := by decide +kernel
theorem dX4_askWays_138 : decode cX4_askWays 138 = .ok (.return_, 1) := by decide +kernel
theorem dX4_askColours_0 : decode cX4_askColours 0 = .ok (.iconst 0, 1) := by decide +kernel
theorem dX4_askColours_1 : decode cX4_askColours 1 = .ok (.istore_n 1, 1) := by decide +kernel
theorem dX4_askColours_2 : decode cX4_askColours 2 = .ok (.iload_n 1, 1) := by decide +kernel
theorem dX4_askColours_3 : decode cX4_askColours 3 = .ok (.aload_n 0, 1) := by decide +kernel
theorem dX4_askColours_4 : decode cX4_askColours 4 = .ok (.getfield 22, 3) := by decide +kernel
theorem dX4_askColours_7 : decode cX4_askColours 7 = .ok (.getfield 48, 3) := by decide +kernel
theorem dX4_askColours_10 : decode cX4_askColours 10 = .ok (.if_icmp .ge 67, 3) := by decide +kernel
theorem dX4_askColours_13 : decode cX4_askColours 13 = .ok (.aload_n 0, 1) := by decide +kernel
theorem dX4_askColours_14 : decode cX4_askColours 14 = .ok (.getfield 22, 3) := by decide +kernel
theorem dX4_askColours_17 : decode cX4_askColours 17 = .ok (.getfield 55, 3) := by decide +kernel
theorem dX4_askColours_20 : decode cX4_askColours 20 = .ok (.iload_n 1, 1) := by decide +kernel
theorem dX4_askColours_21 : decode cX4_askColours 21 = .ok (.iaload, 1) := by decide +kernel
theorem dX4_askColours_22 : decode cX4_askColours 22 = .ok (.istore_n 2, 1) := by decide +kernel
theorem dX4_askColours_23 : decode cX4_askColours 23 = .ok (.aload_n 0, 1) := by decide +kernel
theorem dX4_askColours_24 : decode cX4_askColours 24 = .ok (.getfield 22, 3) := by decide +kernel
theorem dX4_askColours_27 : decode cX4_askColours 27 = .ok (.getfield 59, 3) := by decide +kernel
theorem dX4_askColours_30 : decode cX4_askColours 30 = .ok (.iload_n 1, 1) := by decide +kernel
theorem dX4_askColours_31 : decode cX4_askColours 31 = .ok (.iaload, 1) := by decide +kernel
theorem dX4_askColours_32 : decode cX4_askColours 32 = .ok (.istore_n 3, 1) := by decide +kernel
theorem dX4_askColours_33 : decode cX4_askColours 33 = .ok (.aload_n 0, 1) := by decide +kernel
theorem dX4_askColours_34 : decode cX4_askColours 34 = .ok (.getfield 12, 3) := by decide +kernel
theorem dX4_askColours_37 : decode cX4_askColours 37 = .ok (.iload_n 2, 1) := by decide +kernel
theorem dX4_askColours_38 : decode cX4_askColours 38 = .ok (.iload_n 3, 1) := by decide +kernel
theorem dX4_askColours_39 : decode cX4_askColours 39 = .ok (.invokevirtual 143, 3) := by decide +kernel
theorem dX4_askColours_42 : decode cX4_askColours 42 = .ok (.ifCond .eq 29, 3) := by decide +kernel
theorem dX4_askColours_45 : decode cX4_askColours 45 = .ok (.aload_n 0, 1) := by decide +kernel
theorem dX4_askColours_46 : decode cX4_askColours 46 = .ok (.bipush 7, 2) := by decide +kernel
theorem dX4_askColours_48 : decode cX4_askColours 48 = .ok (.aload_n 0, 1) := by decide +kernel
theorem dX4_askColours_49 : decode cX4_askColours 49 = .ok (.getfield 12, 3) := by decide +kernel
theorem dX4_askColours_52 : decode cX4_askColours 52 = .ok (.iload_n 2, 1) := by decide +kernel
theorem dX4_askColours_53 : decode cX4_askColours 53 = .ok (.iload_n 3, 1) := by decide +kernel
theorem dX4_askColours_54 : decode cX4_askColours 54 = .ok (.invokevirtual 147, 3) := by decide +kernel
theorem dX4_askColours_57 : decode cX4_askColours 57 = .ok (.ifCond .eq 7, 3) := by decide +kernel
theorem dX4_askColours_60 : decode cX4_askColours 60 = .ok (.iconst 1, 1) := by decide +kernel
theorem dX4_askColours_61 : decode cX4_askColours 61 = .ok (.goto 4, 3) := by decide +kernel
theorem dX4_askColours_64 : decode cX4_askColours 64 = .ok (.iconst 2, 1) := by decide +kernel
theorem dX4_askColours_65 : decode cX4_askColours 65 = .ok (.lconst 1, 1) := by decide +kernel
theorem dX4_askColours_66 : decode cX4_askColours 66 = .ok (.iload_n 1, 1) := by decide +kernel
theorem dX4_askColours_67 : decode cX4_askColours 67 = .ok (.lshl, 1) := by decide +kernel
theorem dX4_askColours_68 : decode cX4_askColours 68 = .ok (.invokevirtual 136, 3) := by decide +kernel
theorem dX4_askColours_71 : decode cX4_askColours 71 = .ok (.iinc 1 1, 3) := by decide +kernel
theorem dX4_askColours_74 : decode cX4_askColours 74 = .ok (.goto (-72), 3) := by decide +kernel
theorem dX4_askColours_77 : decode cX4_askColours 77 = .ok (.return_, 1) := by decide +kernel
theorem dX4_isTorn_0 : decode cX4_isTorn 0 = .ok (.aload_n 0, 1) := by decide +kernel
theorem dX4_isTorn_1 : decode cX4_isTorn 1 = .ok (.getfield 118, 3) := by decide +kernel
theorem dX4_isTorn_4 : decode cX4_isTorn 4 = .ok (.aload_n 0, 1) := by decide +kernel
theorem dX4_isTorn_5 : decode cX4_isTorn 5 = .ok (.getfield 121, 3) := by decide +kernel
theorem dX4_isTorn_8 : decode cX4_isTorn 8 = .ok (.land, 1) := by decide +kernel
theorem dX4_isTorn_9 : decode cX4_isTorn 9 = .ok (.lconst 0, 1) := by decide +kernel
theorem dX4_isTorn_10 : decode cX4_isTorn 10 = .ok (.lcmp, 1) := by decide +kernel
theorem dX4_isTorn_11 : decode cX4_isTorn 11 = .ok (.ifCond .eq 7, 3) := by decide +kernel
theorem dX4_isTorn_14 : decode cX4_isTorn 14 = .ok (.iconst 1, 1) := by decide +kernel
theorem dX4_isTorn_15 : decode cX4_isTorn 15 = .ok (.goto 4, 3) := by decide +kernel
theorem dX4_isTorn_18 : decode cX4_isTorn 18 = .ok (.iconst 0, 1) := by decide +kernel
theorem dX4_isTorn_19 : decode cX4_isTorn 19 = .ok (.ireturn, 1) := by decide +kernel
theorem dX4_firstRuleFor_0 : decode cX4_firstRuleFor 0 = .ok (.iconst 1, 1) := by decide +kernel
theorem dX4_firstRuleFor_1 : decode cX4_firstRuleFor 1 = .ok (.istore_n 2, 1) := by decide +kernel
theorem dX4_firstRuleFor_2 : decode cX4_firstRuleFor 2 = .ok (.iload_n 2, 1) := by decide +kernel
theorem dX4_firstRuleFor_3 : decode cX4_firstRuleFor 3 = .ok (.bipush 7, 2) := by decide +kernel
theorem dX4_firstRuleFor_5 : decode cX4_firstRuleFor 5 = .ok (.if_icmp .gt 24, 3) := by decide +kernel
theorem dX4_firstRuleFor_8 : decode cX4_firstRuleFor 8 = .ok (.aload_n 0, 1) := by decide +kernel
theorem dX4_firstRuleFor_9 : decode cX4_firstRuleFor 9 = .ok (.getfield 18, 3) := by decide +kernel
theorem dX4_firstRuleFor_12 : decode cX4_firstRuleFor 12 = .ok (.iload_n 2, 1) := by decide +kernel
theorem dX4_firstRuleFor_13 : decode cX4_firstRuleFor 13 = .ok (.laload, 1) := by decide +kernel
theorem dX4_firstRuleFor_14 : decode cX4_firstRuleFor 14 = .ok (.iload_n 1, 1) := by decide +kernel
theorem dX4_firstRuleFor_15 : decode cX4_firstRuleFor 15 = .ok (.invokestatic 51, 3) := by decide +kernel
theorem dX4_firstRuleFor_18 : decode cX4_firstRuleFor 18 = .ok (.ifCond .eq 5, 3) := by decide +kernel
theorem dX4_firstRuleFor_21 : decode cX4_firstRuleFor 21 = .ok (.iload_n 2, 1) := by decide +kernel
theorem dX4_firstRuleFor_22 : decode cX4_firstRuleFor 22 = .ok (.ireturn, 1) := by decide +kernel
theorem dX4_firstRuleFor_23 : decode cX4_firstRuleFor 23 = .ok (.iinc 2 1, 3) := by decide +kernel
theorem dX4_firstRuleFor_26 : decode cX4_firstRuleFor 26 = .ok (.goto (-24), 3) := by decide +kernel
theorem dX4_firstRuleFor_29 : decode cX4_firstRuleFor 29 = .ok (.iconst (-1), 1) := by decide +kernel
theorem dX4_firstRuleFor_30 : decode cX4_firstRuleFor 30 = .ok (.ireturn, 1) := by decide +kernel
theorem dX5_init_0 : decode cX5_init 0 = .ok (.aload_n 0, 1) := by decide +kernel
theorem dX5_init_1 : decode cX5_init 1 = .ok (.invokespecial 1, 3) := by decide +kernel
theorem dX5_init_4 : decode cX5_init 4 = .ok (.aload_n 0, 1) := by decide +kernel
theorem dX5_init_5 : decode cX5_init 5 = .ok (.new 7, 3) := by decide +kernel
theorem dX5_init_8 : decode cX5_init 8 = .ok (.dup, 1) := by decide +kernel
theorem dX5_init_9 : decode cX5_init 9 = .ok (.invokespecial 9, 3) := by decide +kernel
theorem dX5_init_12 : decode cX5_init 12 = .ok (.putfield 10, 3) := by decide +kernel
theorem dX5_init_15 : decode cX5_init 15 = .ok (.aload_n 0, 1) := by decide +kernel
theorem dX5_init_16 : decode cX5_init 16 = .ok (.new 16, 3) := by decide +kernel
theorem dX5_init_19 : decode cX5_init 19 = .ok (.dup, 1) := by decide +kernel
theorem dX5_init_20 : decode cX5_init 20 = .ok (.aload_n 0, 1) := by decide +kernel
theorem dX5_init_21 : decode cX5_init 21 = .ok (.getfield 10, 3) := by decide +kernel
theorem dX5_init_24 : decode cX5_init 24 = .ok (.invokespecial 18, 3) := by decide +kernel
theorem dX5_init_27 : decode cX5_init 27 = .ok (.putfield 21, 3) := by decide +kernel
theorem dX5_init_30 : decode cX5_init 30 = .ok (.aload_n 0, 1) := by decide +kernel
theorem dX5_init_31 : decode cX5_init 31 = .ok (.new 25, 3) := by decide +kernel
theorem dX5_init_34 : decode cX5_init 34 = .ok (.dup, 1) := by decide +kernel
theorem dX5_init_35 : decode cX5_init 35 = .ok (.aload_n 0, 1) := by decide +kernel
theorem dX5_init_36 : decode cX5_init 36 = .ok (.getfield 10, 3) := by decide +kernel
theorem dX5_init_39 : decode cX5_init 39 = .ok (.aload_n 0, 1) := by decide +kernel
theorem dX5_init_40 : decode cX5_init 40 = .ok (.getfield 21, 3) := by decide +kernel
theorem dX5_init_43 : decode cX5_init 43 = .ok (.invokespecial 27, 3) := by decide +kernel
theorem dX5_init_46 : decode cX5_init 46 = .ok (.putfield 30, 3) := by decide +kernel
theorem dX5_init_49 : decode cX5_init 49 = .ok (.aload_n 0, 1) := by decide +kernel
theorem dX5_init_50 : decode cX5_init 50 = .ok (.new 34, 3) := by decide +kernel
theorem dX5_init_53 : decode cX5_init 53 = .ok (.dup, 1) := by decide +kernel
theorem dX5_init_54 : decode cX5_init 54 = .ok (.aload_n 0, 1) := by decide +kernel
theorem dX5_init_55 : decode cX5_init 55 = .ok (.getfield 10, 3) := by decide +kernel
theorem dX5_init_58 : decode cX5_init 58 = .ok (.invokespecial 36, 3) := by decide +kernel
theorem dX5_init_61 : decode cX5_init 61 = .ok (.putfield 37, 3) := by decide +kernel
theorem dX5_init_64 : decode cX5_init 64 = .ok (.aload_n 0, 1) := by decide +kernel
theorem dX5_init_65 : decode cX5_init 65 = .ok (.getfield 10, 3) := by decide +kernel
theorem dX5_init_68 : decode cX5_init 68 = .ok (.iconst 3, 1) := by decide +kernel
theorem dX5_init_69 : decode cX5_init 69 = .ok (.iconst 3, 1) := by decide +kernel
theorem dX5_init_70 : decode cX5_init 70 = .ok (.invokevirtual 41, 3) := by decide +kernel
theorem dX5_init_73 : decode cX5_init 73 = .ok (.return_, 1) := by decide +kernel
theorem dX5_lay_0 : decode cX5_lay 0 = .ok (.iload_n 1, 1) := by decide +kernel
theorem dX5_lay_1 : decode cX5_lay 1 = .ok (.iconst 1, 1) := by decide +kernel
theorem dX5_lay_2 : decode cX5_lay 2 = .ok (.if_icmp .lt 18, 3) := by decide +kernel
theorem dX5_lay_5 : decode cX5_lay 5 = .ok (.iload_n 1, 1) := by decide +kernel
theorem dX5_lay_6 : decode cX5_lay 6 = .ok (.iconst 4, 1) := by decide +kernel
theorem dX5_lay_7 : decode cX5_lay 7 = .ok (.if_icmp .gt 13, 3) := by decide +kernel
theorem dX5_lay_10 : decode cX5_lay 10 = .ok (.iload_n 2, 1) := by decide +kernel
theorem dX5_lay_11 : decode cX5_lay 11 = .ok (.iconst 1, 1) := by decide +kernel
theorem dX5_lay_12 : decode cX5_lay 12 = .ok (.if_icmp .lt 8, 3) := by decide +kernel
theorem dX5_lay_15 : decode cX5_lay 15 = .ok (.iload_n 2, 1) := by decide +kernel
theorem dX5_lay_16 : decode cX5_lay 16 = .ok (.iconst 4, 1) := by decide +kernel
theorem dX5_lay_17 : decode cX5_lay 17 = .ok (.if_icmp .le 13, 3) := by decide +kernel
theorem dX5_lay_20 : decode cX5_lay 20 = .ok (.new 45, 3) := by decide +kernel
theorem dX5_lay_23 : decode cX5_lay 23 = .ok (.dup, 1) := by decide +kernel
theorem dX5_lay_24 : decode cX5_lay 24 = .ok (.ldc 47, 2) := by decide +kernel
theorem dX5_lay_26 : decode cX5_lay 26 = .ok (.invokespecial 49, 3) := by decide +kernel
theorem dX5_lay_29 : decode cX5_lay 29 = .ok (.athrow, 1) := by decide +kernel
theorem dX5_lay_30 : decode cX5_lay 30 = .ok (.aload_n 0, 1) := by decide +kernel
theorem dX5_lay_31 : decode cX5_lay 31 = .ok (.getfield 10, 3) := by decide +kernel
theorem dX5_lay_34 : decode cX5_lay 34 = .ok (.iload_n 1, 1) := by decide +kernel
theorem dX5_lay_35 : decode cX5_lay 35 = .ok (.iload_n 2, 1) := by decide +kernel
theorem dX5_lay_36 : decode cX5_lay 36 = .ok (.invokevirtual 41, 3) := by decide +kernel
theorem dX5_lay_39 : decode cX5_lay 39 = .ok (.aload_n 0, 1) := by decide +kernel
theorem dX5_lay_40 : decode cX5_lay 40 = .ok (.getfield 37, 3) := by decide +kernel
theorem dX5_lay_43 : decode cX5_lay 43 = .ok (.invokevirtual 52, 3) := by decide +kernel
theorem dX5_lay_46 : decode cX5_lay 46 = .ok (.aload_n 0, 1) := by decide +kernel
theorem dX5_lay_47 : decode cX5_lay 47 = .ok (.invokevirtual 55, 3) := by decide +kernel
theorem dX5_lay_50 : decode cX5_lay 50 = .ok (.return_, 1) := by decide +kernel
theorem dX5_cells_0 : decode cX5_cells 0 = .ok (.aload_n 0, 1) := by decide +kernel
theorem dX5_cells_1 : decode cX5_cells 1 = .ok (.getfield 10, 3) := by decide +kernel
theorem dX5_cells_4 : decode cX5_cells 4 = .ok (.getfield 58, 3) := by decide +kernel
theorem dX5_cells_7 : decode cX5_cells 7 = .ok (.ireturn, 1) := by decide +kernel
theorem dX5_edges_0 : decode cX5_edges 0 = .ok (.aload_n 0, 1) := by decide +kernel
theorem dX5_edges_1 : decode cX5_edges 1 = .ok (.getfield 10, 3) := by decide +kernel
theorem dX5_edges_4 : decode cX5_edges 4 = .ok (.getfield 62, 3) := by decide +kernel
theorem dX5_edges_7 : decode cX5_edges 7 = .ok (.ireturn, 1) := by decide +kernel
theorem dX5_number_0 : decode cX5_number 0 = .ok (.aload_n 0, 1) := by decide +kernel
theorem dX5_number_1 : decode cX5_number 1 = .ok (.iload_n 1, 1) := by decide +kernel
theorem dX5_number_2 : decode cX5_number 2 = .ok (.invokevirtual 65, 3) := by decide +kernel
theorem dX5_number_5 : decode cX5_number 5 = .ok (.iload_n 2, 1) := by decide +kernel
theorem dX5_number_6 : decode cX5_number 6 = .ok (.iconst (-1), 1) := by decide +kernel
theorem dX5_number_7 : decode cX5_number 7 = .ok (.if_icmp .eq 22, 3) := by decide +kernel
theorem dX5_number_10 : decode cX5_number 10 = .ok (.iload_n 2, 1) := by decide +kernel
theorem dX5_number_11 : decode cX5_number 11 = .ok (.ifCond .lt 8, 3) := by decide +kernel
theorem dX5_number_14 : decode cX5_number 14 = .ok (.iload_n 2, 1) := by decide +kernel
theorem dX5_number_15 : decode cX5_number 15 = .ok (.iconst 3, 1) := by decide +kernel
theorem dX5_number_16 : decode cX5_number 16 = .ok (.if_icmp .le 13, 3) := by decide +kernel
theorem dX5_number_19 : decode cX5_number 19 = .ok (.new 45, 3) := by decide +kernel
theorem dX5_number_22 : decode cX5_number 22 = .ok (.dup, 1) := by decide +kernel
theorem dX5_number_23 : decode cX5_number 23 = .ok (.ldc 69, 2) := by decide +kernel
theorem dX5_number_25 : decode cX5_number 25 = .ok (.invokespecial 49, 3) := by decide +kernel
theorem dX5_number_28 : decode cX5_number 28 = .ok (.athrow, 1) := by decide +kernel
theorem dX5_number_29 : decode cX5_number 29 = .ok (.aload_n 0, 1) := by decide +kernel
theorem dX5_number_30 : decode cX5_number 30 = .ok (.getfield 10, 3) := by decide +kernel
theorem dX5_number_33 : decode cX5_number 33 = .ok (.getfield 71, 3) := by decide +kernel
theorem dX5_number_36 : decode cX5_number 36 = .ok (.iload_n 1, 1) := by decide +kernel
theorem dX5_number_37 : decode cX5_number 37 = .ok (.iaload, 1) := by decide +kernel
theorem dX5_number_38 : decode cX5_number 38 = .ok (.istore_n 3, 1) := by decide +kernel
theorem dX5_number_39 : decode cX5_number 39 = .ok (.aload_n 0, 1) := by decide +kernel
theorem dX5_number_40 : decode cX5_number 40 = .ok (.getfield 10, 3) := by decide +kernel
theorem dX5_number_43 : decode cX5_number 43 = .ok (.getfield 71, 3) := by decide +kernel
theorem dX5_number_46 : decode cX5_number 46 = .ok (.iload_n 1, 1) := by decide +kernel
theorem dX5_number_47 : decode cX5_number 47 = .ok (.iload_n 2, 1) := by decide +kernel
theorem dX5_number_48 : decode cX5_number 48 = .ok (.iastore, 1) := by decide +kernel
theorem dX5_number_49 : decode cX5_number 49 = .ok (.iload_n 3, 1) := by decide +kernel
theorem dX5_number_50 : decode cX5_number 50 = .ok (.ireturn, 1) := by decide +kernel
theorem dX5_mark_0 : decode cX5_mark 0 = .ok (.aload_n 0, 1) := by decide +kernel
theorem dX5_mark_1 : decode cX5_mark 1 = .ok (.iload_n 1, 1) := by decide +kernel
theorem dX5_mark_2 : decode cX5_mark 2 = .ok (.invokevirtual 75, 3) := by decide +kernel
theorem dX5_mark_5 : decode cX5_mark 5 = .ok (.iload_n 2, 1) := by decide +kernel
theorem dX5_mark_6 : decode cX5_mark 6 = .ok (.ifCond .eq 23, 3) := by decide +kernel
theorem dX5_mark_9 : decode cX5_mark 9 = .ok (.iload_n 2, 1) := by decide +kernel
theorem dX5_mark_10 : decode cX5_mark 10 = .ok (.iconst 1, 1) := by decide +kernel
theorem dX5_mark_11 : decode cX5_mark 11 = .ok (.if_icmp .eq 18, 3) := by decide +kernel
theorem dX5_mark_14 : decode cX5_mark 14 = .ok (.iload_n 2, 1) := by decide +kernel
theorem dX5_mark_15 : decode cX5_mark 15 = .ok (.iconst 2, 1) := by decide +kernel
theorem dX5_mark_16 : decode cX5_mark 16 = .ok (.if_icmp .eq 13, 3) := by decide +kernel
theorem dX5_mark_19 : decode cX5_mark 19 = .ok (.new 45, 3) := by decide +kernel
theorem dX5_mark_22 : decode cX5_mark 22 = .ok (.dup, 1) := by decide +kernel
theorem dX5_mark_23 : decode cX5_mark 23 = .ok (.ldc 78, 2) := by decide +kernel
theorem dX5_mark_25 : decode cX5_mark 25 = .ok (.invokespecial 49, 3) := by decide +kernel
theorem dX5_mark_28 : decode cX5_mark 28 = .ok (.athrow, 1) := by decide +kernel
theorem dX5_mark_29 : decode cX5_mark 29 = .ok (.aload_n 0, 1) := by decide +kernel
theorem dX5_mark_30 : decode cX5_mark 30 = .ok (.getfield 80, 3) := by decide +kernel
theorem dX5_mark_33 : decode cX5_mark 33 = .ok (.aload_n 0, 1) := by decide +kernel
theorem dX5_mark_34 : decode cX5_mark 34 = .ok (.getfield 84, 3) := by decide +kernel
theorem dX5_mark_37 : decode cX5_mark 37 = .ok (.iload_n 1, 1) := by decide +kernel
theorem dX5_mark_38 : decode cX5_mark 38 = .ok (.invokestatic 87, 3) := by decide +kernel
theorem dX5_mark_41 : decode cX5_mark 41 = .ok (.istore_n 3, 1) := by decide +kernel
theorem dX5_mark_42 : decode cX5_mark 42 = .ok (.lconst 1, 1) := by decide +kernel
theorem dX5_mark_43 : decode cX5_mark 43 = .ok (.iload_n 1, 1) := by decide +kernel
theorem dX5_mark_44 : decode cX5_mark 44 = .ok (.lshl, 1) := by decide +kernel
theorem dX5_mark_45 : decode cX5_mark 45 = .ok (.lstore 4, 2) := by decide +kernel
theorem dX5_mark_47 : decode cX5_mark 47 = .ok (.aload_n 0, 1) := by decide +kernel
theorem dX5_mark_48 : decode cX5_mark 48 = .ok (.iload_n 2, 1) := by decide +kernel
theorem dX5_mark_49 : decode cX5_mark 49 = .ok (.iconst 1, 1) := by decide +kernel
theorem dX5_mark_50 : decode cX5_mark 50 = .ok (.if_icmp .ne 13, 3) := by decide +kernel
theorem dX5_mark_53 : decode cX5_mark 53 = .ok (.aload_n 0, 1) := by decide +kernel
theorem dX5_mark_54 : decode cX5_mark 54 = .ok (.getfield 80, 3) := by decide +kernel
theorem dX5_mark_57 : decode cX5_mark 57 = .ok (.lload 4, 2) := by decide +kernel
theorem dX5_mark_59 : decode cX5_mark 59 = .ok (.lor, 1) := by decide +kernel
theorem dX5_mark_60 : decode cX5_mark 60 = .ok (.goto 14, 3) := by decide +kernel
theorem dX5_mark_63 : decode cX5_mark 63 = .ok (.aload_n 0, 1) := by decide +kernel
theorem dX5_mark_64 : decode cX5_mark 64 = .ok (.getfield 80, 3) := by decide +kernel
theorem dX5_mark_67 : decode cX5_mark 67 = .ok (.lload 4, 2) := by decide +kernel
theorem dX5_mark_69 : decode cX5_mark 69 = .ok (.ldc2_w 91, 3) := by decide +kernel
theorem dX5_mark_72 : decode cX5_mark 72 = .ok (.lxor, 1) := by decide +kernel
theorem dX5_mark_73 : decode cX5_mark 73 = .ok (.land, 1) := by decide +kernel
theorem dX5_mark_74 : decode cX5_mark 74 = .ok (.putfield 80, 3) := by decide +kernel
theorem dX5_mark_77 : decode cX5_mark 77 = .ok (.aload_n 0, 1) := by decide +kernel
theorem dX5_mark_78 : decode cX5_mark 78 = .ok (.iload_n 2, 1) := by decide +kernel
theorem dX5_mark_79 : decode cX5_mark 79 = .ok (.iconst 2, 1) := by decide +kernel
theorem dX5_mark_80 : decode cX5_mark 80 = .ok (.if_icmp .ne 13, 3) := by decide +kernel
theorem dX5_mark_83 : decode cX5_mark 83 = .ok (.aload_n 0, 1) := by decide +kernel
theorem dX5_mark_84 : decode cX5_mark 84 = .ok (.getfield 84, 3) := by decide +kernel
theorem dX5_mark_87 : decode cX5_mark 87 = .ok (.lload 4, 2) := by decide +kernel
theorem dX5_mark_89 : decode cX5_mark 89 = .ok (.lor, 1) := by decide +kernel
theorem dX5_mark_90 : decode cX5_mark 90 = .ok (.goto 14, 3) := by decide +kernel
theorem dX5_mark_93 : decode cX5_mark 93 = .ok (.aload_n 0, 1) := by decide +kernel
theorem dX5_mark_94 : decode cX5_mark 94 = .ok (.getfield 84, 3) := by decide +kernel
theorem dX5_mark_97 : decode cX5_mark 97 = .ok (.lload 4, 2) := by decide +kernel
theorem dX5_mark_99 : decode cX5_mark 99 = .ok (.ldc2_w 91, 3) := by decide +kernel
theorem dX5_mark_102 : decode cX5_mark 102 = .ok (.lxor, 1) := by decide +kernel
theorem dX5_mark_103 : decode cX5_mark 103 = .ok (.land, 1) := by decide +kernel
theorem dX5_mark_104 : decode cX5_mark 104 = .ok (.putfield 84, 3) := by decide +kernel
theorem dX5_mark_107 : decode cX5_mark 107 = .ok (.iload_n 3, 1) := by decide +kernel
theorem dX5_mark_108 : decode cX5_mark 108 = .ok (.ireturn, 1) := by decide +kernel
theorem dX5_wipe_0 : decode cX5_wipe 0 = .ok (.aload_n 0, 1) := by decide +kernel
theorem dX5_wipe_1 : decode cX5_wipe 1 = .ok (.invokevirtual 55, 3) := by decide +kernel
theorem dX5_wipe_4 : decode cX5_wipe 4 = .ok (.return_, 1) := by decide +kernel
theorem dX5_markAll_0 : decode cX5_markAll 0 = .ok (.aload_n 0, 1) := by decide +kernel
theorem dX5_markAll_1 : decode cX5_markAll 1 = .ok (.getfield 30, 3) := by decide +kernel
theorem dX5_markAll_4 : decode cX5_markAll 4 = .ok (.aload_n 0, 1) := by decide +kernel
theorem dX5_markAll_5 : decode cX5_markAll 5 = .ok (.getfield 80, 3) := by decide +kernel
theorem dX5_markAll_8 : decode cX5_markAll 8 = .ok (.aload_n 0, 1) := by decide +kernel
theorem dX5_markAll_9 : decode cX5_markAll 9 = .ok (.getfield 84, 3) := by decide +kernel
theorem dX5_markAll_12 : decode cX5_markAll 12 = .ok (.invokevirtual 93, 3) := by decide +kernel
theorem dX5_markAll_15 : decode cX5_markAll 15 = .ok (.aload_n 0, 1) := by decide +kernel
theorem dX5_markAll_16 : decode cX5_markAll 16 = .ok (.getfield 30, 3) := by decide +kernel
theorem dX5_markAll_19 : decode cX5_markAll 19 = .ok (.getfield 97, 3) := by decide +kernel
theorem dX5_markAll_22 : decode cX5_markAll 22 = .ok (.ifCond .eq 5, 3) := by decide +kernel
theorem dX5_markAll_25 : decode cX5_markAll 25 = .ok (.iconst 0, 1) := by decide +kernel
theorem dX5_markAll_26 : decode cX5_markAll 26 = .ok (.ireturn, 1) := by decide +kernel
theorem dX5_markAll_27 : decode cX5_markAll 27 = .ok (.aload_n 0, 1) := by decide +kernel
theorem dX5_markAll_28 : decode cX5_markAll 28 = .ok (.getfield 80, 3) := by decide +kernel
theorem dX5_markAll_31 : decode cX5_markAll 31 = .ok (.aload_n 0, 1) := by decide +kernel
theorem dX5_markAll_32 : decode cX5_markAll 32 = .ok (.getfield 84, 3) := by decide +kernel
theorem dX5_markAll_35 : decode cX5_markAll 35 = .ok (.lor, 1) := by decide +kernel
theorem dX5_markAll_36 : decode cX5_markAll 36 = .ok (.invokestatic 100, 3) := by decide +kernel
theorem dX5_markAll_39 : decode cX5_markAll 39 = .ok (.istore_n 1, 1) := by decide +kernel
theorem dX5_markAll_40 : decode cX5_markAll 40 = .ok (.aload_n 0, 1) := by decide +kernel
theorem dX5_markAll_41 : decode cX5_markAll 41 = .ok (.aload_n 0, 1) := by decide +kernel
theorem dX5_markAll_42 : decode cX5_markAll 42 = .ok (.getfield 30, 3) := by decide +kernel
theorem dX5_markAll_45 : decode cX5_markAll 45 = .ok (.getfield 106, 3) := by decide +kernel
theorem dX5_markAll_48 : decode cX5_markAll 48 = .ok (.putfield 80, 3) := by decide +kernel
theorem dX5_markAll_51 : decode cX5_markAll 51 = .ok (.aload_n 0, 1) := by decide +kernel
theorem dX5_markAll_52 : decode cX5_markAll 52 = .ok (.aload_n 0, 1) := by decide +kernel
theorem dX5_markAll_53 : decode cX5_markAll 53 = .ok (.getfield 30, 3) := by decide +kernel
theorem dX5_markAll_56 : decode cX5_markAll 56 = .ok (.getfield 107, 3) := by decide +kernel
theorem dX5_markAll_59 : decode cX5_markAll 59 = .ok (.putfield 84, 3) := by decide +kernel
theorem dX5_markAll_62 : decode cX5_markAll 62 = .ok (.aload_n 0, 1) := by decide +kernel
theorem dX5_markAll_63 : decode cX5_markAll 63 = .ok (.getfield 80, 3) := by decide +kernel
theorem dX5_markAll_66 : decode cX5_markAll 66 = .ok (.aload_n 0, 1) := by decide +kernel
theorem dX5_markAll_67 : decode cX5_markAll 67 = .ok (.getfield 84, 3) := by decide +kernel
theorem dX5_markAll_70 : decode cX5_markAll 70 = .ok (.lor, 1) := by decide +kernel
theorem dX5_markAll_71 : decode cX5_markAll 71 = .ok (.invokestatic 100, 3) := by decide +kernel
theorem dX5_markAll_74 : decode cX5_markAll 74 = .ok (.iload_n 1, 1) := by decide +kernel
theorem dX5_markAll_75 : decode cX5_markAll 75 = .ok (.isub, 1) := by decide +kernel
theorem dX5_markAll_76 : decode cX5_markAll 76 = .ok (.ireturn, 1) := by decide +kernel
theorem dX5_edgeOf_0 : decode cX5_edgeOf 0 = .ok (.aload_n 0, 1) := by decide +kernel
theorem dX5_edgeOf_1 : decode cX5_edgeOf 1 = .ok (.iload_n 1, 1) := by decide +kernel
theorem dX5_edgeOf_2 : decode cX5_edgeOf 2 = .ok (.invokevirtual 65, 3) := by decide +kernel
theorem dX5_edgeOf_5 : decode cX5_edgeOf 5 = .ok (.iload_n 2, 1) := by decide +kernel
theorem dX5_edgeOf_6 : decode cX5_edgeOf 6 = .ok (.ifCond .lt 8, 3) := by decide +kernel
theorem dX5_edgeOf_9 : decode cX5_edgeOf 9 = .ok (.iload_n 2, 1) := by decide +kernel
theorem dX5_edgeOf_10 : decode cX5_edgeOf 10 = .ok (.iconst 4, 1) := by decide +kernel
theorem dX5_edgeOf_11 : decode cX5_edgeOf 11 = .ok (.if_icmp .lt 13, 3) := by decide +kernel
theorem dX5_edgeOf_14 : decode cX5_edgeOf 14 = .ok (.new 108, 3) := by decide +kernel
theorem dX5_edgeOf_17 : decode cX5_edgeOf 17 = .ok (.dup, 1) := by decide +kernel
theorem dX5_edgeOf_18 : decode cX5_edgeOf 18 = .ok (.ldc 110, 2) := by decide +kernel
theorem dX5_edgeOf_20 : decode cX5_edgeOf 20 = .ok (.invokespecial 112, 3) := by decide +kernel
theorem dX5_edgeOf_23 : decode cX5_edgeOf 23 = .ok (.athrow, 1) := by decide +kernel
theorem dX5_edgeOf_24 : decode cX5_edgeOf 24 = .ok (.aload_n 0, 1) := by decide +kernel
theorem dX5_edgeOf_25 : decode cX5_edgeOf 25 = .ok (.getfield 10, 3) := by decide +kernel
theorem dX5_edgeOf_28 : decode cX5_edgeOf 28 = .ok (.iload_n 1, 1) := by decide +kernel
theorem dX5_edgeOf_29 : decode cX5_edgeOf 29 = .ok (.iload_n 2, 1) := by decide +kernel
theorem dX5_edgeOf_30 : decode cX5_edgeOf 30 = .ok (.invokevirtual 113, 3) := by decide +kernel
theorem dX5_edgeOf_33 : decode cX5_edgeOf 33 = .ok (.ireturn, 1) := by decide +kernel
theorem dX5_lines_0 : decode cX5_lines 0 = .ok (.aload_n 0, 1) := by decide +kernel
theorem dX5_lines_1 : decode cX5_lines 1 = .ok (.getfield 80, 3) := by decide +kernel
theorem dX5_lines_4 : decode cX5_lines 4 = .ok (.invokestatic 100, 3) := by decide +kernel
theorem dX5_lines_7 : decode cX5_lines 7 = .ok (.ireturn, 1) := by decide +kernel
theorem dX5_ways_0 : decode cX5_ways 0 = .ok (.iconst 0, 1) := by decide +kernel
theorem dX5_ways_1 : decode cX5_ways 1 = .ok (.istore_n 1, 1) := by decide +kernel
theorem dX5_ways_2 : decode cX5_ways 2 = .ok (.aload_n 0, 1) := by decide +kernel
theorem dX5_ways_3 : decode cX5_ways 3 = .ok (.getfield 80, 3) := by decide +kernel
theorem dX5_ways_6 : decode cX5_ways 6 = .ok (.lstore_n 2, 1) := by decide +kernel
theorem dX5_ways_7 : decode cX5_ways 7 = .ok (.iconst 0, 1) := by decide +kernel
theorem dX5_ways_8 : decode cX5_ways 8 = .ok (.istore 4, 2) := by decide +kernel
theorem dX5_ways_10 : decode cX5_ways 10 = .ok (.iload 4, 2) := by decide +kernel
theorem dX5_ways_12 : decode cX5_ways 12 = .ok (.bipush 40, 2) := by decide +kernel
theorem dX5_ways_14 : decode cX5_ways 14 = .ok (.if_icmp .ge 33, 3) := by decide +kernel
theorem dX5_ways_17 : decode cX5_ways 17 = .ok (.lload_n 2, 1) := by decide +kernel
theorem dX5_ways_18 : decode cX5_ways 18 = .ok (.lconst 0, 1) := by decide +kernel
theorem dX5_ways_19 : decode cX5_ways 19 = .ok (.lcmp, 1) := by decide +kernel
theorem dX5_ways_20 : decode cX5_ways 20 = .ok (.ifCond .eq 27, 3) := by decide +kernel
theorem dX5_ways_23 : decode cX5_ways 23 = .ok (.lload_n 2, 1) := by decide +kernel
theorem dX5_ways_24 : decode cX5_ways 24 = .ok (.aload_n 0, 1) := by decide +kernel
theorem dX5_ways_25 : decode cX5_ways 25 = .ok (.getfield 10, 3) := by decide +kernel
theorem dX5_ways_28 : decode cX5_ways 28 = .ok (.lload_n 2, 1) := by decide +kernel
theorem dX5_ways_29 : decode cX5_ways 29 = .ok (.invokevirtual 117, 3) := by decide +kernel
theorem dX5_ways_32 : decode cX5_ways 32 = .ok (.ldc2_w 91, 3) := by decide +kernel
theorem dX5_ways_35 : decode cX5_ways 35 = .ok (.lxor, 1) := by decide +kernel
theorem dX5_ways_36 : decode cX5_ways 36 = .ok (.land, 1) := by decide +kernel
theorem dX5_ways_37 : decode cX5_ways 37 = .ok (.lstore_n 2, 1) := by decide +kernel
theorem dX5_ways_38 : decode cX5_ways 38 = .ok (.iinc 1 1, 3) := by decide +kernel
theorem dX5_ways_41 : decode cX5_ways 41 = .ok (.iinc 4 1, 3) := by decide +kernel
theorem dX5_ways_44 : decode cX5_ways 44 = .ok (.goto (-34), 3) := by decide +kernel
theorem dX5_ways_47 : decode cX5_ways 47 = .ok (.iload_n 1, 1) := by decide +kernel
theorem dX5_ways_48 : decode cX5_ways 48 = .ok (.ireturn, 1) := by decide +kernel
theorem dX5_broken_0 : decode cX5_broken 0 = .ok (.aload_n 0, 1) := by decide +kernel
theorem dX5_broken_1 : decode cX5_broken 1 = .ok (.getfield 21, 3) := by decide +kernel
theorem dX5_broken_4 : decode cX5_broken 4 = .ok (.aload_n 0, 1) := by decide +kernel
theorem dX5_broken_5 : decode cX5_broken 5 = .ok (.getfield 80, 3) := by decide +kernel
theorem dX5_broken_8 : decode cX5_broken 8 = .ok (.aload_n 0, 1) := by decide +kernel
theorem dX5_broken_9 : decode cX5_broken 9 = .ok (.getfield 84, 3) := by decide +kernel
theorem dX5_broken_12 : decode cX5_broken 12 = .ok (.invokevirtual 121, 3) := by decide +kernel
theorem dX5_broken_15 : decode cX5_broken 15 = .ok (.aload_n 0, 1) := by decide +kernel
theorem dX5_broken_16 : decode cX5_broken 16 = .ok (.getfield 21, 3) := by decide +kernel
theorem dX5_broken_19 : decode cX5_broken 19 = .ok (.invokevirtual 124, 3) := by decide +kernel
theorem dX5_broken_22 : decode cX5_broken 22 = .ok (.ireturn, 1) := by decide +kernel
theorem dX5_isAnswer_0 : decode cX5_isAnswer 0 = .ok (.aload_n 0, 1) := by decide +kernel
theorem dX5_isAnswer_1 : decode cX5_isAnswer 1 = .ok (.getfield 10, 3) := by decide +kernel
theorem dX5_isAnswer_4 : decode cX5_isAnswer 4 = .ok (.aload_n 0, 1) := by decide +kernel
theorem dX5_isAnswer_5 : decode cX5_isAnswer 5 = .ok (.getfield 80, 3) := by decide +kernel
theorem dX5_isAnswer_8 : decode cX5_isAnswer 8 = .ok (.invokevirtual 128, 3) := by decide +kernel
theorem dX5_isAnswer_11 : decode cX5_isAnswer 11 = .ok (.ifCond .eq 22, 3) := by decide +kernel
theorem dX5_isAnswer_14 : decode cX5_isAnswer 14 = .ok (.aload_n 0, 1) := by decide +kernel
theorem dX5_isAnswer_15 : decode cX5_isAnswer 15 = .ok (.getfield 10, 3) := by decide +kernel
theorem dX5_isAnswer_18 : decode cX5_isAnswer 18 = .ok (.aload_n 0, 1) := by decide +kernel
theorem dX5_isAnswer_19 : decode cX5_isAnswer 19 = .ok (.getfield 80, 3) := by decide +kernel
theorem dX5_isAnswer_22 : decode cX5_isAnswer 22 = .ok (.iconst (-1), 1) := by decide +kernel
theorem dX5_isAnswer_23 : decode cX5_isAnswer 23 = .ok (.invokevirtual 132, 3) := by decide +kernel
theorem dX5_isAnswer_26 : decode cX5_isAnswer 26 = .ok (.ifCond .eq 7, 3) := by decide +kernel
theorem dX5_isAnswer_29 : decode cX5_isAnswer 29 = .ok (.iconst 1, 1) := by decide +kernel
theorem dX5_isAnswer_30 : decode cX5_isAnswer 30 = .ok (.goto 4, 3) := by decide +kernel
theorem dX5_isAnswer_33 : decode cX5_isAnswer 33 = .ok (.iconst 0, 1) := by decide +kernel
theorem dX5_isAnswer_34 : decode cX5_isAnswer 34 = .ok (.ireturn, 1) := by decide +kernel
theorem dX5_follows_0 : decode cX5_follows 0 = .ok (.aload_n 0, 1) := by decide +kernel
theorem dX5_follows_1 : decode cX5_follows 1 = .ok (.iload_n 1, 1) := by decide +kernel
theorem dX5_follows_2 : decode cX5_follows 2 = .ok (.invokevirtual 75, 3) := by decide +kernel
theorem dX5_follows_5 : decode cX5_follows 5 = .ok (.aload_n 0, 1) := by decide +kernel
theorem dX5_follows_6 : decode cX5_follows 6 = .ok (.getfield 30, 3) := by decide +kernel
theorem dX5_follows_9 : decode cX5_follows 9 = .ok (.aload_n 0, 1) := by decide +kernel
theorem dX5_follows_10 : decode cX5_follows 10 = .ok (.getfield 80, 3) := by decide +kernel
theorem dX5_follows_13 : decode cX5_follows 13 = .ok (.aload_n 0, 1) := by decide +kernel
theorem dX5_follows_14 : decode cX5_follows 14 = .ok (.getfield 84, 3) := by decide +kernel
theorem dX5_follows_17 : decode cX5_follows 17 = .ok (.invokevirtual 93, 3) := by decide +kernel
theorem dX5_follows_20 : decode cX5_follows 20 = .ok (.aload_n 0, 1) := by decide +kernel
theorem dX5_follows_21 : decode cX5_follows 21 = .ok (.getfield 30, 3) := by decide +kernel
theorem dX5_follows_24 : decode cX5_follows 24 = .ok (.getfield 106, 3) := by decide +kernel
theorem dX5_follows_27 : decode cX5_follows 27 = .ok (.aload_n 0, 1) := by decide +kernel
theorem dX5_follows_28 : decode cX5_follows 28 = .ok (.getfield 30, 3) := by decide +kernel
theorem dX5_follows_31 : decode cX5_follows 31 = .ok (.getfield 107, 3) := by decide +kernel
theorem dX5_follows_34 : decode cX5_follows 34 = .ok (.iload_n 1, 1) := by decide +kernel
theorem dX5_follows_35 : decode cX5_follows 35 = .ok (.invokestatic 87, 3) := by decide +kernel
theorem dX5_follows_38 : decode cX5_follows 38 = .ok (.ireturn, 1) := by decide +kernel
theorem dX5_roundOf_0 : decode cX5_roundOf 0 = .ok (.aload_n 0, 1) := by decide +kernel
theorem dX5_roundOf_1 : decode cX5_roundOf 1 = .ok (.iload_n 1, 1) := by decide +kernel
theorem dX5_roundOf_2 : decode cX5_roundOf 2 = .ok (.invokevirtual 75, 3) := by decide +kernel
theorem dX5_roundOf_5 : decode cX5_roundOf 5 = .ok (.aload_n 0, 1) := by decide +kernel
theorem dX5_roundOf_6 : decode cX5_roundOf 6 = .ok (.getfield 30, 3) := by decide +kernel
theorem dX5_roundOf_9 : decode cX5_roundOf 9 = .ok (.aload_n 0, 1) := by decide +kernel
theorem dX5_roundOf_10 : decode cX5_roundOf 10 = .ok (.getfield 80, 3) := by decide +kernel
theorem dX5_roundOf_13 : decode cX5_roundOf 13 = .ok (.aload_n 0, 1) := by decide +kernel
theorem dX5_roundOf_14 : decode cX5_roundOf 14 = .ok (.getfield 84, 3) := by decide +kernel
theorem dX5_roundOf_17 : decode cX5_roundOf 17 = .ok (.invokevirtual 93, 3) := by decide +kernel
theorem dX5_roundOf_20 : decode cX5_roundOf 20 = .ok (.aload_n 0, 1) := by decide +kernel
theorem dX5_roundOf_21 : decode cX5_roundOf 21 = .ok (.getfield 30, 3) := by decide +kernel
theorem dX5_roundOf_24 : decode cX5_roundOf 24 = .ok (.getfield 136, 3) := by decide +kernel
theorem dX5_roundOf_27 : decode cX5_roundOf 27 = .ok (.iload_n 1, 1) := by decide +kernel
theorem dX5_roundOf_28 : decode cX5_roundOf 28 = .ok (.iaload, 1) := by decide +kernel
theorem dX5_roundOf_29 : decode cX5_roundOf 29 = .ok (.ireturn, 1) := by decide +kernel
theorem dX5_ruleOf_0 : decode cX5_ruleOf 0 = .ok (.aload_n 0, 1) := by decide +kernel
theorem dX5_ruleOf_1 : decode cX5_ruleOf 1 = .ok (.iload_n 1, 1) := by decide +kernel
theorem dX5_ruleOf_2 : decode cX5_ruleOf 2 = .ok (.invokevirtual 75, 3) := by decide +kernel
theorem dX5_ruleOf_5 : decode cX5_ruleOf 5 = .ok (.aload_n 0, 1) := by decide +kernel
theorem dX5_ruleOf_6 : decode cX5_ruleOf 6 = .ok (.getfield 30, 3) := by decide +kernel
theorem dX5_ruleOf_9 : decode cX5_ruleOf 9 = .ok (.aload_n 0, 1) := by decide +kernel
theorem dX5_ruleOf_10 : decode cX5_ruleOf 10 = .ok (.getfield 80, 3) := by decide +kernel
theorem dX5_ruleOf_13 : decode cX5_ruleOf 13 = .ok (.aload_n 0, 1) := by decide +kernel
theorem dX5_ruleOf_14 : decode cX5_ruleOf 14 = .ok (.getfield 84, 3) := by decide +kernel
theorem dX5_ruleOf_17 : decode cX5_ruleOf 17 = .ok (.invokevirtual 93, 3) := by decide +kernel
theorem dX5_ruleOf_20 : decode cX5_ruleOf 20 = .ok (.aload_n 0, 1) := by decide +kernel
theorem dX5_ruleOf_21 : decode cX5_ruleOf 21 = .ok (.getfield 30, 3) := by decide +kernel
theorem dX5_ruleOf_24 : decode cX5_ruleOf 24 = .ok (.getfield 139, 3) := by decide +kernel
theorem dX5_ruleOf_27 : decode cX5_ruleOf 27 = .ok (.iload_n 1, 1) := by decide +kernel
theorem dX5_ruleOf_28 : decode cX5_ruleOf 28 = .ok (.iaload, 1) := by decide +kernel
theorem dX5_ruleOf_29 : decode cX5_ruleOf 29 = .ok (.ireturn, 1) := by decide +kernel
theorem dX5_rounds_0 : decode cX5_rounds 0 = .ok (.aload_n 0, 1) := by decide +kernel
theorem dX5_rounds_1 : decode cX5_rounds 1 = .ok (.getfield 30, 3) := by decide +kernel
theorem dX5_rounds_4 : decode cX5_rounds 4 = .ok (.aload_n 0, 1) := by decide +kernel
theorem dX5_rounds_5 : decode cX5_rounds 5 = .ok (.getfield 80, 3) := by decide +kernel
theorem dX5_rounds_8 : decode cX5_rounds 8 = .ok (.aload_n 0, 1) := by decide +kernel
theorem dX5_rounds_9 : decode cX5_rounds 9 = .ok (.getfield 84, 3) := by decide +kernel
theorem dX5_rounds_12 : decode cX5_rounds 12 = .ok (.invokevirtual 93, 3) := by decide +kernel
theorem dX5_rounds_15 : decode cX5_rounds 15 = .ok (.aload_n 0, 1) := by decide +kernel
theorem dX5_rounds_16 : decode cX5_rounds 16 = .ok (.getfield 30, 3) := by decide +kernel
theorem dX5_rounds_19 : decode cX5_rounds 19 = .ok (.getfield 142, 3) := by decide +kernel
theorem dX5_rounds_22 : decode cX5_rounds 22 = .ok (.ireturn, 1) := by decide +kernel
theorem dX5_end_0 : decode cX5_end 0 = .ok (.aload_n 0, 1) := by decide +kernel
theorem dX5_end_1 : decode cX5_end 1 = .ok (.getfield 30, 3) := by decide +kernel
theorem dX5_end_4 : decode cX5_end 4 = .ok (.aload_n 0, 1) := by decide +kernel
theorem dX5_end_5 : decode cX5_end 5 = .ok (.getfield 80, 3) := by decide +kernel
theorem dX5_end_8 : decode cX5_end 8 = .ok (.aload_n 0, 1) := by decide +kernel
theorem dX5_end_9 : decode cX5_end 9 = .ok (.getfield 84, 3) := by decide +kernel
theorem dX5_end_12 : decode cX5_end 12 = .ok (.invokevirtual 93, 3) := by decide +kernel
theorem dX5_end_15 : decode cX5_end 15 = .ok (.aload_n 0, 1) := by decide +kernel
theorem dX5_end_16 : decode cX5_end 16 = .ok (.getfield 30, 3) := by decide +kernel
theorem dX5_end_19 : decode cX5_end 19 = .ok (.getfield 97, 3) := by decide +kernel
theorem dX5_end_22 : decode cX5_end 22 = .ok (.ireturn, 1) := by decide +kernel
theorem dX5_hint_0 : decode cX5_hint 0 = .ok (.aload_n 0, 1) := by decide +kernel
theorem dX5_hint_1 : decode cX5_hint 1 = .ok (.getfield 21, 3) := by decide +kernel
theorem dX5_hint_4 : decode cX5_hint 4 = .ok (.aload_n 0, 1) := by decide +kernel
theorem dX5_hint_5 : decode cX5_hint 5 = .ok (.getfield 80, 3) := by decide +kernel
theorem dX5_hint_8 : decode cX5_hint 8 = .ok (.aload_n 0, 1) := by decide +kernel
theorem dX5_hint_9 : decode cX5_hint 9 = .ok (.getfield 84, 3) := by decide +kernel
theorem dX5_hint_12 : decode cX5_hint 12 = .ok (.invokevirtual 121, 3) := by decide +kernel
theorem dX5_hint_15 : decode cX5_hint 15 = .ok (.aload_n 0, 1) := by decide +kernel
theorem dX5_hint_16 : decode cX5_hint 16 = .ok (.getfield 21, 3) := by decide +kernel
theorem dX5_hint_19 : decode cX5_hint 19 = .ok (.invokevirtual 124, 3) := by decide +kernel
theorem dX5_hint_22 : decode cX5_hint 22 = .ok (.ifCond .eq 5, 3) := by decide +kernel
theorem dX5_hint_25 : decode cX5_hint 25 = .ok (.iconst (-1), 1) := by decide +kernel
theorem dX5_hint_26 : decode cX5_hint 26 = .ok (.ireturn, 1) := by decide +kernel
theorem dX5_hint_27 : decode cX5_hint 27 = .ok (.aload_n 0, 1) := by decide +kernel
theorem dX5_hint_28 : decode cX5_hint 28 = .ok (.getfield 21, 3) := by decide +kernel
theorem dX5_hint_31 : decode cX5_hint 31 = .ok (.invokevirtual 145, 3) := by decide +kernel
theorem dX5_hint_34 : decode cX5_hint 34 = .ok (.aload_n 0, 1) := by decide +kernel
theorem dX5_hint_35 : decode cX5_hint 35 = .ok (.getfield 21, 3) := by decide +kernel
theorem dX5_hint_38 : decode cX5_hint 38 = .ok (.getfield 148, 3) := by decide +kernel
theorem dX5_hint_41 : decode cX5_hint 41 = .ok (.aload_n 0, 1) := by decide +kernel
theorem dX5_hint_42 : decode cX5_hint 42 = .ok (.getfield 21, 3) := by decide +kernel
theorem dX5_hint_45 : decode cX5_hint 45 = .ok (.getfield 151, 3) := by decide +kernel
theorem dX5_hint_48 : decode cX5_hint 48 = .ok (.lor, 1) := by decide +kernel
theorem dX5_hint_49 : decode cX5_hint 49 = .ok (.lstore_n 1, 1) := by decide +kernel
theorem dX5_hint_50 : decode cX5_hint 50 = .ok (.iconst 0, 1) := by decide +kernel
theorem dX5_hint_51 : decode cX5_hint 51 = .ok (.istore_n 3, 1) := by decide +kernel
theorem dX5_hint_52 : decode cX5_hint 52 = .ok (.iload_n 3, 1) := by decide +kernel
theorem dX5_hint_53 : decode cX5_hint 53 = .ok (.aload_n 0, 1) := by decide +kernel
theorem dX5_hint_54 : decode cX5_hint 54 = .ok (.getfield 10, 3) := by decide +kernel
theorem dX5_hint_57 : decode cX5_hint 57 = .ok (.getfield 62, 3) := by decide +kernel
theorem dX5_hint_60 : decode cX5_hint 60 = .ok (.if_icmp .ge 19, 3) := by decide +kernel
theorem dX5_hint_63 : decode cX5_hint 63 = .ok (.lload_n 1, 1) := by decide +kernel
theorem dX5_hint_64 : decode cX5_hint 64 = .ok (.iload_n 3, 1) := by decide +kernel
theorem dX5_hint_65 : decode cX5_hint 65 = .ok (.invokestatic 154, 3) := by decide +kernel
theorem dX5_hint_68 : decode cX5_hint 68 = .ok (.ifCond .eq 5, 3) := by decide +kernel
theorem dX5_hint_71 : decode cX5_hint 71 = .ok (.iload_n 3, 1) := by decide +kernel
theorem dX5_hint_72 : decode cX5_hint 72 = .ok (.ireturn, 1) := by decide +kernel
theorem dX5_hint_73 : decode cX5_hint 73 = .ok (.iinc 3 1, 3) := by decide +kernel
theorem dX5_hint_76 : decode cX5_hint 76 = .ok (.goto (-24), 3) := by decide +kernel
theorem dX5_hint_79 : decode cX5_hint 79 = .ok (.iconst (-1), 1) := by decide +kernel
theorem dX5_hint_80 : decode cX5_hint 80 = .ok (.ireturn, 1) := by decide +kernel
theorem dX5_answers_0 : decode cX5_answers 0 = .ok (.aload_n 0, 1) := by decide +kernel
theorem dX5_answers_1 : decode cX5_answers 1 = .ok (.getfield 37, 3) := by decide +kernel
theorem dX5_answers_4 : decode cX5_answers 4 = .ok (.aload_n 0, 1) := by decide +kernel
theorem dX5_answers_5 : decode cX5_answers 5 = .ok (.getfield 80, 3) := by decide +kernel
theorem dX5_answers_8 : decode cX5_answers 8 = .ok (.aload_n 0, 1) := by decide +kernel
theorem dX5_answers_9 : decode cX5_answers 9 = .ok (.getfield 84, 3) := by decide +kernel
theorem dX5_answers_12 : decode cX5_answers 12 = .ok (.iconst (-1), 1) := by decide +kernel
theorem dX5_answers_13 : decode cX5_answers 13 = .ok (.invokevirtual 157, 3) := by decide +kernel
theorem dX5_answers_16 : decode cX5_answers 16 = .ok (.ireturn, 1) := by decide +kernel
theorem dX5_answer_0 : decode cX5_answer 0 = .ok (.aload_n 0, 1) := by decide +kernel
theorem dX5_answer_1 : decode cX5_answer 1 = .ok (.iload_n 1, 1) := by decide +kernel
theorem dX5_answer_2 : decode cX5_answer 2 = .ok (.invokevirtual 160, 3) := by decide +kernel
theorem dX5_answer_5 : decode cX5_answer 5 = .ok (.lreturn, 1) := by decide +kernel
theorem dX5_isInside_0 : decode cX5_isInside 0 = .ok (.aload_n 0, 1) := by decide +kernel
theorem dX5_isInside_1 : decode cX5_isInside 1 = .ok (.iload_n 1, 1) := by decide +kernel
theorem dX5_isInside_2 : decode cX5_isInside 2 = .ok (.invokevirtual 160, 3) := by decide +kernel
theorem dX5_isInside_5 : decode cX5_isInside 5 = .ok (.lstore_n 3, 1) := by decide +kernel
theorem dX5_isInside_6 : decode cX5_isInside 6 = .ok (.aload_n 0, 1) := by decide +kernel
theorem dX5_isInside_7 : decode cX5_isInside 7 = .ok (.iload_n 2, 1) := by decide +kernel
theorem dX5_isInside_8 : decode cX5_isInside 8 = .ok (.invokevirtual 65, 3) := by decide +kernel
theorem dX5_isInside_11 : decode cX5_isInside 11 = .ok (.lload_n 3, 1) := by decide +kernel
theorem dX5_isInside_12 : decode cX5_isInside 12 = .ok (.aload_n 0, 1) := by decide +kernel
theorem dX5_isInside_13 : decode cX5_isInside 13 = .ok (.getfield 10, 3) := by decide +kernel
theorem dX5_isInside_16 : decode cX5_isInside 16 = .ok (.getfield 164, 3) := by decide +kernel
theorem dX5_isInside_19 : decode cX5_isInside 19 = .ok (.iload_n 2, 1) := by decide +kernel
theorem dX5_isInside_20 : decode cX5_isInside 20 = .ok (.laload, 1) := by decide +kernel
theorem dX5_isInside_21 : decode cX5_isInside 21 = .ok (.land, 1) := by decide +kernel
theorem dX5_isInside_22 : decode cX5_isInside 22 = .ok (.invokestatic 100, 3) := by decide +kernel
theorem dX5_isInside_25 : decode cX5_isInside 25 = .ok (.iconst 2, 1) := by decide +kernel
theorem dX5_isInside_26 : decode cX5_isInside 26 = .ok (.irem, 1) := by decide +kernel
theorem dX5_isInside_27 : decode cX5_isInside 27 = .ok (.iconst 1, 1) := by decide +kernel
theorem dX5_isInside_28 : decode cX5_isInside 28 = .ok (.if_icmp .ne 7, 3) := by decide +kernel
theorem dX5_isInside_31 : decode cX5_isInside 31 = .ok (.iconst 1, 1) := by decide +kernel
theorem dX5_isInside_32 : decode cX5_isInside 32 = .ok (.goto 4, 3) := by decide +kernel
theorem dX5_isInside_35 : decode cX5_isInside 35 = .ok (.iconst 0, 1) := by decide +kernel
theorem dX5_isInside_36 : decode cX5_isInside 36 = .ok (.ireturn, 1) := by decide +kernel
theorem dX5_proved_0 : decode cX5_proved 0 = .ok (.aload_n 0, 1) := by decide +kernel
theorem dX5_proved_1 : decode cX5_proved 1 = .ok (.iload_n 1, 1) := by decide +kernel
theorem dX5_proved_2 : decode cX5_proved 2 = .ok (.invokevirtual 75, 3) := by decide +kernel
theorem dX5_proved_5 : decode cX5_proved 5 = .ok (.aload_n 0, 1) := by decide +kernel
theorem dX5_proved_6 : decode cX5_proved 6 = .ok (.invokevirtual 168, 3) := by decide +kernel
theorem dX5_proved_9 : decode cX5_proved 9 = .ok (.aload_n 0, 1) := by decide +kernel
theorem dX5_proved_10 : decode cX5_proved 10 = .ok (.getfield 37, 3) := by decide +kernel
theorem dX5_proved_13 : decode cX5_proved 13 = .ok (.aload_n 0, 1) := by decide +kernel
theorem dX5_proved_14 : decode cX5_proved 14 = .ok (.getfield 80, 3) := by decide +kernel
theorem dX5_proved_17 : decode cX5_proved 17 = .ok (.aload_n 0, 1) := by decide +kernel
theorem dX5_proved_18 : decode cX5_proved 18 = .ok (.getfield 84, 3) := by decide +kernel
theorem dX5_proved_21 : decode cX5_proved 21 = .ok (.invokevirtual 171, 3) := by decide +kernel
theorem dX5_proved_24 : decode cX5_proved 24 = .ok (.iload_n 1, 1) := by decide +kernel
theorem dX5_proved_25 : decode cX5_proved 25 = .ok (.invokestatic 154, 3) := by decide +kernel
theorem dX5_proved_28 : decode cX5_proved 28 = .ok (.ifCond .eq 5, 3) := by decide +kernel
theorem dX5_proved_31 : decode cX5_proved 31 = .ok (.iconst 1, 1) := by decide +kernel
theorem dX5_proved_32 : decode cX5_proved 32 = .ok (.ireturn, 1) := by decide +kernel
theorem dX5_proved_33 : decode cX5_proved 33 = .ok (.aload_n 0, 1) := by decide +kernel
theorem dX5_proved_34 : decode cX5_proved 34 = .ok (.getfield 37, 3) := by decide +kernel
theorem dX5_proved_37 : decode cX5_proved 37 = .ok (.aload_n 0, 1) := by decide +kernel
theorem dX5_proved_38 : decode cX5_proved 38 = .ok (.getfield 80, 3) := by decide +kernel
theorem dX5_proved_41 : decode cX5_proved 41 = .ok (.aload_n 0, 1) := by decide +kernel
theorem dX5_proved_42 : decode cX5_proved 42 = .ok (.getfield 84, 3) := by decide +kernel
theorem dX5_proved_45 : decode cX5_proved 45 = .ok (.invokevirtual 175, 3) := by decide +kernel
theorem dX5_proved_48 : decode cX5_proved 48 = .ok (.iload_n 1, 1) := by decide +kernel
theorem dX5_proved_49 : decode cX5_proved 49 = .ok (.invokestatic 154, 3) := by decide +kernel
theorem dX5_proved_52 : decode cX5_proved 52 = .ok (.ifCond .eq 7, 3) := by decide +kernel
theorem dX5_proved_55 : decode cX5_proved 55 = .ok (.iconst 0, 1) := by decide +kernel
theorem dX5_proved_56 : decode cX5_proved 56 = .ok (.goto 4, 3) := by decide +kernel
theorem dX5_proved_59 : decode cX5_proved 59 = .ok (.iconst 2, 1) := by decide +kernel
theorem dX5_proved_60 : decode cX5_proved 60 = .ok (.ireturn, 1) := by decide +kernel
theorem dX5_beyondRules_0 : decode cX5_beyondRules 0 = .ok (.aload_n 0, 1) := by decide +kernel
theorem dX5_beyondRules_1 : decode cX5_beyondRules 1 = .ok (.invokevirtual 168, 3) := by decide +kernel
theorem dX5_beyondRules_4 : decode cX5_beyondRules 4 = .ok (.aload_n 0, 1) := by decide +kernel
theorem dX5_beyondRules_5 : decode cX5_beyondRules 5 = .ok (.getfield 37, 3) := by decide +kernel
theorem dX5_beyondRules_8 : decode cX5_beyondRules 8 = .ok (.aload_n 0, 1) := by decide +kernel
theorem dX5_beyondRules_9 : decode cX5_beyondRules 9 = .ok (.getfield 80, 3) := by decide +kernel
theorem dX5_beyondRules_12 : decode cX5_beyondRules 12 = .ok (.aload_n 0, 1) := by decide +kernel
theorem dX5_beyondRules_13 : decode cX5_beyondRules 13 = .ok (.getfield 84, 3) := by decide +kernel
theorem dX5_beyondRules_16 : decode cX5_beyondRules 16 = .ok (.invokevirtual 175, 3) := by decide +kernel
theorem dX5_beyondRules_19 : decode cX5_beyondRules 19 = .ok (.aload_n 0, 1) := by decide +kernel
theorem dX5_beyondRules_20 : decode cX5_beyondRules 20 = .ok (.getfield 37, 3) := by decide +kernel
theorem dX5_beyondRules_23 : decode cX5_beyondRules 23 = .ok (.aload_n 0, 1) := by decide +kernel
theorem dX5_beyondRules_24 : decode cX5_beyondRules 24 = .ok (.getfield 80, 3) := by decide +kernel
theorem dX5_beyondRules_27 : decode cX5_beyondRules 27 = .ok (.aload_n 0, 1) := by decide +kernel
theorem dX5_beyondRules_28 : decode cX5_beyondRules 28 = .ok (.getfield 84, 3) := by decide +kernel
theorem dX5_beyondRules_31 : decode cX5_beyondRules 31 = .ok (.invokevirtual 171, 3) := by decide +kernel
theorem dX5_beyondRules_34 : decode cX5_beyondRules 34 = .ok (.ldc2_w 91, 3) := by decide +kernel
theorem dX5_beyondRules_37 : decode cX5_beyondRules 37 = .ok (.lxor, 1) := by decide +kernel
theorem dX5_beyondRules_38 : decode cX5_beyondRules 38 = .ok (.land, 1) := by decide +kernel
theorem dX5_beyondRules_39 : decode cX5_beyondRules 39 = .ok (.lstore_n 1, 1) := by decide +kernel
theorem dX5_beyondRules_40 : decode cX5_beyondRules 40 = .ok (.aload_n 0, 1) := by decide +kernel
theorem dX5_beyondRules_41 : decode cX5_beyondRules 41 = .ok (.getfield 30, 3) := by decide +kernel
theorem dX5_beyondRules_44 : decode cX5_beyondRules 44 = .ok (.aload_n 0, 1) := by decide +kernel
theorem dX5_beyondRules_45 : decode cX5_beyondRules 45 = .ok (.getfield 80, 3) := by decide +kernel
theorem dX5_beyondRules_48 : decode cX5_beyondRules 48 = .ok (.aload_n 0, 1) := by decide +kernel
theorem dX5_beyondRules_49 : decode cX5_beyondRules 49 = .ok (.getfield 84, 3) := by decide +kernel
theorem dX5_beyondRules_52 : decode cX5_beyondRules 52 = .ok (.invokevirtual 93, 3) := by decide +kernel
theorem dX5_beyondRules_55 : decode cX5_beyondRules 55 = .ok (.aload_n 0, 1) := by decide +kernel
theorem dX5_beyondRules_56 : decode cX5_beyondRules 56 = .ok (.getfield 10, 3) := by decide +kernel
theorem dX5_beyondRules_59 : decode cX5_beyondRules 59 = .ok (.getfield 178, 3) := by decide +kernel
theorem dX5_beyondRules_62 : decode cX5_beyondRules 62 = .ok (.lload_n 1, 1) := by decide +kernel
theorem dX5_beyondRules_63 : decode cX5_beyondRules 63 = .ok (.ldc2_w 91, 3) := by decide +kernel
theorem dX5_beyondRules_66 : decode cX5_beyondRules 66 = .ok (.lxor, 1) := by decide +kernel
theorem dX5_beyondRules_67 : decode cX5_beyondRules 67 = .ok (.land, 1) := by decide +kernel
theorem dX5_beyondRules_68 : decode cX5_beyondRules 68 = .ok (.aload_n 0, 1) := by decide +kernel
theorem dX5_beyondRules_69 : decode cX5_beyondRules 69 = .ok (.getfield 30, 3) := by decide +kernel
theorem dX5_beyondRules_72 : decode cX5_beyondRules 72 = .ok (.getfield 106, 3) := by decide +kernel
theorem dX5_beyondRules_75 : decode cX5_beyondRules 75 = .ok (.ldc2_w 91, 3) := by decide +kernel
theorem dX5_beyondRules_78 : decode cX5_beyondRules 78 = .ok (.lxor, 1) := by decide +kernel
theorem dX5_beyondRules_79 : decode cX5_beyondRules 79 = .ok (.land, 1) := by decide +kernel
theorem dX5_beyondRules_80 : decode cX5_beyondRules 80 = .ok (.aload_n 0, 1) := by decide +kernel
theorem dX5_beyondRules_81 : decode cX5_beyondRules 81 = .ok (.getfield 30, 3) := by decide +kernel
theorem dX5_beyondRules_84 : decode cX5_beyondRules 84 = .ok (.getfield 107, 3) := by decide +kernel
theorem dX5_beyondRules_87 : decode cX5_beyondRules 87 = .ok (.ldc2_w 91, 3) := by decide +kernel
theorem dX5_beyondRules_90 : decode cX5_beyondRules 90 = .ok (.lxor, 1) := by decide +kernel
theorem dX5_beyondRules_91 : decode cX5_beyondRules 91 = .ok (.land, 1) := by decide +kernel
theorem dX5_beyondRules_92 : decode cX5_beyondRules 92 = .ok (.invokestatic 100, 3) := by decide +kernel
theorem dX5_beyondRules_95 : decode cX5_beyondRules 95 = .ok (.ireturn, 1) := by decide +kernel
theorem dX5_isNeeded_0 : decode cX5_isNeeded 0 = .ok (.aload_n 0, 1) := by decide +kernel
theorem dX5_isNeeded_1 : decode cX5_isNeeded 1 = .ok (.iload_n 1, 1) := by decide +kernel
theorem dX5_isNeeded_2 : decode cX5_isNeeded 2 = .ok (.invokevirtual 65, 3) := by decide +kernel
theorem dX5_isNeeded_5 : decode cX5_isNeeded 5 = .ok (.aload_n 0, 1) := by decide +kernel
theorem dX5_isNeeded_6 : decode cX5_isNeeded 6 = .ok (.getfield 37, 3) := by decide +kernel
theorem dX5_isNeeded_9 : decode cX5_isNeeded 9 = .ok (.aload_n 0, 1) := by decide +kernel
theorem dX5_isNeeded_10 : decode cX5_isNeeded 10 = .ok (.getfield 80, 3) := by decide +kernel
theorem dX5_isNeeded_13 : decode cX5_isNeeded 13 = .ok (.aload_n 0, 1) := by decide +kernel
theorem dX5_isNeeded_14 : decode cX5_isNeeded 14 = .ok (.getfield 84, 3) := by decide +kernel
theorem dX5_isNeeded_17 : decode cX5_isNeeded 17 = .ok (.iload_n 1, 1) := by decide +kernel
theorem dX5_isNeeded_18 : decode cX5_isNeeded 18 = .ok (.invokevirtual 157, 3) := by decide +kernel
theorem dX5_isNeeded_21 : decode cX5_isNeeded 21 = .ok (.aload_n 0, 1) := by decide +kernel
theorem dX5_isNeeded_22 : decode cX5_isNeeded 22 = .ok (.getfield 37, 3) := by decide +kernel
theorem dX5_isNeeded_25 : decode cX5_isNeeded 25 = .ok (.aload_n 0, 1) := by decide +kernel
theorem dX5_isNeeded_26 : decode cX5_isNeeded 26 = .ok (.getfield 80, 3) := by decide +kernel
theorem dX5_isNeeded_29 : decode cX5_isNeeded 29 = .ok (.aload_n 0, 1) := by decide +kernel
theorem dX5_isNeeded_30 : decode cX5_isNeeded 30 = .ok (.getfield 84, 3) := by decide +kernel
theorem dX5_isNeeded_33 : decode cX5_isNeeded 33 = .ok (.iconst (-1), 1) := by decide +kernel
theorem dX5_isNeeded_34 : decode cX5_isNeeded 34 = .ok (.invokevirtual 157, 3) := by decide +kernel
theorem dX5_isNeeded_37 : decode cX5_isNeeded 37 = .ok (.if_icmp .le 7, 3) := by decide +kernel
theorem dX5_isNeeded_40 : decode cX5_isNeeded 40 = .ok (.iconst 1, 1) := by decide +kernel
theorem dX5_isNeeded_41 : decode cX5_isNeeded 41 = .ok (.goto 4, 3) := by decide +kernel
theorem dX5_isNeeded_44 : decode cX5_isNeeded 44 = .ok (.iconst 0, 1) := by decide +kernel
theorem dX5_isNeeded_45 : decode cX5_isNeeded 45 = .ok (.ireturn, 1) := by decide +kernel
theorem dX5_unmark_0 : decode cX5_unmark 0 = .ok (.aload_n 0, 1) := by decide +kernel
theorem dX5_unmark_1 : decode cX5_unmark 1 = .ok (.lconst 0, 1) := by decide +kernel
theorem dX5_unmark_2 : decode cX5_unmark 2 = .ok (.putfield 80, 3) := by decide +kernel
theorem dX5_unmark_5 : decode cX5_unmark 5 = .ok (.aload_n 0, 1) := by decide +kernel
theorem dX5_unmark_6 : decode cX5_unmark 6 = .ok (.lconst 0, 1) := by decide +kernel
theorem dX5_unmark_7 : decode cX5_unmark 7 = .ok (.putfield 84, 3) := by decide +kernel
theorem dX5_unmark_10 : decode cX5_unmark 10 = .ok (.return_, 1) := by decide +kernel
theorem dX5_requireCell_0 : decode cX5_requireCell 0 = .ok (.iload_n 1, 1) := by decide +kernel
theorem dX5_requireCell_1 : decode cX5_requireCell 1 = .ok (.ifCond .lt 14, 3) := by decide +kernel
theorem dX5_requireCell_4 : decode cX5_requireCell 4 = .ok (.iload_n 1, 1) := by decide +kernel
theorem dX5_requireCell_5 : decode cX5_requireCell 5 = .ok (.aload_n 0, 1) := by decide +kernel
theorem dX5_requireCell_6 : decode cX5_requireCell 6 = .ok (.getfield 10, 3) := by decide +kernel
theorem dX5_requireCell_9 : decode cX5_requireCell 9 = .ok (.getfield 58, 3) := by decide +kernel
theorem dX5_requireCell_12 : decode cX5_requireCell 12 = .ok (.if_icmp .lt 13, 3) := by decide +kernel
theorem dX5_requireCell_15 : decode cX5_requireCell 15 = .ok (.new 108, 3) := by decide +kernel
theorem dX5_requireCell_18 : decode cX5_requireCell 18 = .ok (.dup, 1) := by decide +kernel
theorem dX5_requireCell_19 : decode cX5_requireCell 19 = .ok (.ldc 181, 2) := by decide +kernel
theorem dX5_requireCell_21 : decode cX5_requireCell 21 = .ok (.invokespecial 112, 3) := by decide +kernel
theorem dX5_requireCell_24 : decode cX5_requireCell 24 = .ok (.athrow, 1) := by decide +kernel
theorem dX5_requireCell_25 : decode cX5_requireCell 25 = .ok (.return_, 1) := by decide +kernel
theorem dX5_requireEdge_0 : decode cX5_requireEdge 0 = .ok (.iload_n 1, 1) := by decide +kernel
theorem dX5_requireEdge_1 : decode cX5_requireEdge 1 = .ok (.ifCond .lt 14, 3) := by decide +kernel
theorem dX5_requireEdge_4 : decode cX5_requireEdge 4 = .ok (.iload_n 1, 1) := by decide +kernel
theorem dX5_requireEdge_5 : decode cX5_requireEdge 5 = .ok (.aload_n 0, 1) := by decide +kernel
theorem dX5_requireEdge_6 : decode cX5_requireEdge 6 = .ok (.getfield 10, 3) := by decide +kernel
theorem dX5_requireEdge_9 : decode cX5_requireEdge 9 = .ok (.getfield 62, 3) := by decide +kernel
theorem dX5_requireEdge_12 : decode cX5_requireEdge 12 = .ok (.if_icmp .lt 13, 3) := by decide +kernel
theorem dX5_requireEdge_15 : decode cX5_requireEdge 15 = .ok (.new 108, 3) := by decide +kernel
theorem dX5_requireEdge_18 : decode cX5_requireEdge 18 = .ok (.dup, 1) := by decide +kernel
theorem dX5_requireEdge_19 : decode cX5_requireEdge 19 = .ok (.ldc 183, 2) := by decide +kernel
theorem dX5_requireEdge_21 : decode cX5_requireEdge 21 = .ok (.invokespecial 112, 3) := by decide +kernel
theorem dX5_requireEdge_24 : decode cX5_requireEdge 24 = .ok (.athrow, 1) := by decide +kernel
theorem dX5_requireEdge_25 : decode cX5_requireEdge 25 = .ok (.return_, 1) := by decide +kernel
theorem dX5_requireAnswer_0 : decode cX5_requireAnswer 0 = .ok (.aload_n 0, 1) := by decide +kernel
theorem dX5_requireAnswer_1 : decode cX5_requireAnswer 1 = .ok (.getfield 37, 3) := by decide +kernel
theorem dX5_requireAnswer_4 : decode cX5_requireAnswer 4 = .ok (.aload_n 0, 1) := by decide +kernel
theorem dX5_requireAnswer_5 : decode cX5_requireAnswer 5 = .ok (.getfield 80, 3) := by decide +kernel
theorem dX5_requireAnswer_8 : decode cX5_requireAnswer 8 = .ok (.aload_n 0, 1) := by decide +kernel
theorem dX5_requireAnswer_9 : decode cX5_requireAnswer 9 = .ok (.getfield 84, 3) := by decide +kernel
theorem dX5_requireAnswer_12 : decode cX5_requireAnswer 12 = .ok (.iload_n 1, 1) := by decide +kernel
theorem dX5_requireAnswer_13 : decode cX5_requireAnswer 13 = .ok (.invokevirtual 185, 3) := by decide +kernel
theorem dX5_requireAnswer_16 : decode cX5_requireAnswer 16 = .ok (.lstore_n 2, 1) := by decide +kernel
theorem dX5_requireAnswer_17 : decode cX5_requireAnswer 17 = .ok (.lload_n 2, 1) := by decide +kernel
theorem dX5_requireAnswer_18 : decode cX5_requireAnswer 18 = .ok (.lconst 0, 1) := by decide +kernel
theorem dX5_requireAnswer_19 : decode cX5_requireAnswer 19 = .ok (.lcmp, 1) := by decide +kernel
theorem dX5_requireAnswer_20 : decode cX5_requireAnswer 20 = .ok (.ifCond .ne 13, 3) := by decide +kernel
theorem dX5_requireAnswer_23 : decode cX5_requireAnswer 23 = .ok (.new 108, 3) := by decide +kernel
theorem dX5_requireAnswer_26 : decode cX5_requireAnswer 26 = .ok (.dup, 1) := by decide +kernel
theorem dX5_requireAnswer_27 : decode cX5_requireAnswer 27 = .ok (.ldc 189, 2) := by decide +kernel
theorem dX5_requireAnswer_29 : decode cX5_requireAnswer 29 = .ok (.invokespecial 112, 3) := by decide +kernel
theorem dX5_requireAnswer_32 : decode cX5_requireAnswer 32 = .ok (.athrow, 1) := by decide +kernel
theorem dX5_requireAnswer_33 : decode cX5_requireAnswer 33 = .ok (.lload_n 2, 1) := by decide +kernel
theorem dX5_requireAnswer_34 : decode cX5_requireAnswer 34 = .ok (.lreturn, 1) := by decide +kernel
theorem dX5_requireSomeAnswer_0 : decode cX5_requireSomeAnswer 0 = .ok (.aload_n 0, 1) := by decide +kernel
theorem dX5_requireSomeAnswer_1 : decode cX5_requireSomeAnswer 1 = .ok (.getfield 37, 3) := by decide +kernel
theorem dX5_requireSomeAnswer_4 : decode cX5_requireSomeAnswer 4 = .ok (.aload_n 0, 1) := by decide +kernel
theorem dX5_requireSomeAnswer_5 : decode cX5_requireSomeAnswer 5 = .ok (.getfield 80, 3) := by decide +kernel
theorem dX5_requireSomeAnswer_8 : decode cX5_requireSomeAnswer 8 = .ok (.aload_n 0, 1) := by decide +kernel
theorem dX5_requireSomeAnswer_9 : decode cX5_requireSomeAnswer 9 = .ok (.getfield 84, 3) := by decide +kernel
theorem dX5_requireSomeAnswer_12 : decode cX5_requireSomeAnswer 12 = .ok (.iconst 0, 1) := by decide +kernel
theorem dX5_requireSomeAnswer_13 : decode cX5_requireSomeAnswer 13 = .ok (.invokevirtual 185, 3) := by decide +kernel
theorem dX5_requireSomeAnswer_16 : decode cX5_requireSomeAnswer 16 = .ok (.lconst 0, 1) := by decide +kernel
theorem dX5_requireSomeAnswer_17 : decode cX5_requireSomeAnswer 17 = .ok (.lcmp, 1) := by decide +kernel
theorem dX5_requireSomeAnswer_18 : decode cX5_requireSomeAnswer 18 = .ok (.ifCond .ne 13, 3) := by decide +kernel
theorem dX5_requireSomeAnswer_21 : decode cX5_requireSomeAnswer 21 = .ok (.new 191, 3) := by decide +kernel
theorem dX5_requireSomeAnswer_24 : decode cX5_requireSomeAnswer 24 = .ok (.dup, 1) := by decide +kernel
theorem dX5_requireSomeAnswer_25 : decode cX5_requireSomeAnswer 25 = .ok (.ldc 193, 2) := by decide +kernel
theorem dX5_requireSomeAnswer_27 : decode cX5_requireSomeAnswer 27 = .ok (.invokespecial 195, 3) := by decide +kernel
theorem dX5_requireSomeAnswer_30 : decode cX5_requireSomeAnswer 30 = .ok (.athrow, 1) := by decide +kernel
theorem dX5_requireSomeAnswer_31 : decode cX5_requireSomeAnswer 31 = .ok (.return_, 1) := by decide +kernel
theorem dX5_has_0 : decode cX5_has 0 = .ok (.lload_n 0, 1) := by decide +kernel
theorem dX5_has_1 : decode cX5_has 1 = .ok (.lconst 1, 1) := by decide +kernel
theorem dX5_has_2 : decode cX5_has 2 = .ok (.iload_n 2, 1) := by decide +kernel
theorem dX5_has_3 : decode cX5_has 3 = .ok (.lshl, 1) := by decide +kernel
theorem dX5_has_4 : decode cX5_has 4 = .ok (.land, 1) := by decide +kernel
theorem dX5_has_5 : decode cX5_has 5 = .ok (.lconst 0, 1) := by decide +kernel
theorem dX5_has_6 : decode cX5_has 6 = .ok (.lcmp, 1) := by decide +kernel
theorem dX5_has_7 : decode cX5_has 7 = .ok (.ifCond .eq 7, 3) := by decide +kernel
theorem dX5_has_10 : decode cX5_has 10 = .ok (.iconst 1, 1) := by decide +kernel
theorem dX5_has_11 : decode cX5_has 11 = .ok (.goto 4, 3) := by decide +kernel
theorem dX5_has_14 : decode cX5_has 14 = .ok (.iconst 0, 1) := by decide +kernel
theorem dX5_has_15 : decode cX5_has 15 = .ok (.ireturn, 1) := by decide +kernel
theorem dX5_stateIn_0 : decode cX5_stateIn 0 = .ok (.lload_n 0, 1) := by decide +kernel
theorem dX5_stateIn_1 : decode cX5_stateIn 1 = .ok (.iload 4, 2) := by decide +kernel
theorem dX5_stateIn_3 : decode cX5_stateIn 3 = .ok (.invokestatic 154, 3) := by decide +kernel
theorem dX5_stateIn_6 : decode cX5_stateIn 6 = .ok (.ifCond .eq 5, 3) := by decide +kernel
theorem dX5_stateIn_9 : decode cX5_stateIn 9 = .ok (.iconst 1, 1) := by decide +kernel
theorem dX5_stateIn_10 : decode cX5_stateIn 10 = .ok (.ireturn, 1) := by decide +kernel
theorem dX5_stateIn_11 : decode cX5_stateIn 11 = .ok (.lload_n 2, 1) := by decide +kernel
theorem dX5_stateIn_12 : decode cX5_stateIn 12 = .ok (.iload 4, 2) := by decide +kernel
theorem dX5_stateIn_14 : decode cX5_stateIn 14 = .ok (.invokestatic 154, 3) := by decide +kernel
theorem dX5_stateIn_17 : decode cX5_stateIn 17 = .ok (.ifCond .eq 7, 3) := by decide +kernel
theorem dX5_stateIn_20 : decode cX5_stateIn 20 = .ok (.iconst 2, 1) := by decide +kernel
theorem dX5_stateIn_21 : decode cX5_stateIn 21 = .ok (.goto 4, 3) := by decide +kernel
theorem dX5_stateIn_24 : decode cX5_stateIn 24 = .ok (.iconst 0, 1) := by decide +kernel
theorem dX5_stateIn_25 : decode cX5_stateIn 25 = .ok (.ireturn, 1) := by decide +kernel
theorem dJ13_bitCount_95d88_0 : decode cJ13_bitCount_95d88 0 = .ok (.lload_n 0, 1) := by decide +kernel
theorem dJ13_bitCount_95d88_1 : decode cJ13_bitCount_95d88 1 = .ok (.lload_n 0, 1) := by decide +kernel
theorem dJ13_bitCount_95d88_2 : decode cJ13_bitCount_95d88 2 = .ok (.iconst 1, 1) := by decide +kernel
theorem dJ13_bitCount_95d88_3 : decode cJ13_bitCount_95d88 3 = .ok (.lushr, 1) := by decide +kernel
theorem dJ13_bitCount_95d88_4 : decode cJ13_bitCount_95d88 4 = .ok (.ldc2_w 314, 3) := by decide +kernel
theorem dJ13_bitCount_95d88_7 : decode cJ13_bitCount_95d88 7 = .ok (.land, 1) := by decide +kernel
theorem dJ13_bitCount_95d88_8 : decode cJ13_bitCount_95d88 8 = .ok (.lsub, 1) := by decide +kernel
theorem dJ13_bitCount_95d88_9 : decode cJ13_bitCount_95d88 9 = .ok (.lstore_n 0, 1) := by decide +kernel
theorem dJ13_bitCount_95d88_10 : decode cJ13_bitCount_95d88 10 = .ok (.lload_n 0, 1) := by decide +kernel
theorem dJ13_bitCount_95d88_11 : decode cJ13_bitCount_95d88 11 = .ok (.ldc2_w 316, 3) := by decide +kernel
theorem dJ13_bitCount_95d88_14 : decode cJ13_bitCount_95d88 14 = .ok (.land, 1) := by decide +kernel
theorem dJ13_bitCount_95d88_15 : decode cJ13_bitCount_95d88 15 = .ok (.lload_n 0, 1) := by decide +kernel
theorem dJ13_bitCount_95d88_16 : decode cJ13_bitCount_95d88 16 = .ok (.iconst 2, 1) := by decide +kernel
theorem dJ13_bitCount_95d88_17 : decode cJ13_bitCount_95d88 17 = .ok (.lushr, 1) := by decide +kernel
theorem dJ13_bitCount_95d88_18 : decode cJ13_bitCount_95d88 18 = .ok (.ldc2_w 316, 3) := by decide +kernel
theorem dJ13_bitCount_95d88_21 : decode cJ13_bitCount_95d88 21 = .ok (.land, 1) := by decide +kernel
theorem dJ13_bitCount_95d88_22 : decode cJ13_bitCount_95d88 22 = .ok (.ladd, 1) := by decide +kernel
theorem dJ13_bitCount_95d88_23 : decode cJ13_bitCount_95d88 23 = .ok (.lstore_n 0, 1) := by decide +kernel
theorem dJ13_bitCount_95d88_24 : decode cJ13_bitCount_95d88 24 = .ok (.lload_n 0, 1) := by decide +kernel
theorem dJ13_bitCount_95d88_25 : decode cJ13_bitCount_95d88 25 = .ok (.lload_n 0, 1) := by decide +kernel
theorem dJ13_bitCount_95d88_26 : decode cJ13_bitCount_95d88 26 = .ok (.iconst 4, 1) := by decide +kernel
theorem dJ13_bitCount_95d88_27 : decode cJ13_bitCount_95d88 27 = .ok (.lushr, 1) := by decide +kernel
theorem dJ13_bitCount_95d88_28 : decode cJ13_bitCount_95d88 28 = .ok (.ladd, 1) := by decide +kernel
theorem dJ13_bitCount_95d88_29 : decode cJ13_bitCount_95d88 29 = .ok (.ldc2_w 318, 3) := by decide +kernel
theorem dJ13_bitCount_95d88_32 : decode cJ13_bitCount_95d88 32 = .ok (.land, 1) := by decide +kernel
theorem dJ13_bitCount_95d88_33 : decode cJ13_bitCount_95d88 33 = .ok (.lstore_n 0, 1) := by decide +kernel
theorem dJ13_bitCount_95d88_34 : decode cJ13_bitCount_95d88 34 = .ok (.lload_n 0, 1) := by decide +kernel
theorem dJ13_bitCount_95d88_35 : decode cJ13_bitCount_95d88 35 = .ok (.lload_n 0, 1) := by decide +kernel
theorem dJ13_bitCount_95d88_36 : decode cJ13_bitCount_95d88 36 = .ok (.bipush 8, 2) := by decide +kernel
theorem dJ13_bitCount_95d88_38 : decode cJ13_bitCount_95d88 38 = .ok (.lushr, 1) := by decide +kernel
theorem dJ13_bitCount_95d88_39 : decode cJ13_bitCount_95d88 39 = .ok (.ladd, 1) := by decide +kernel
theorem dJ13_bitCount_95d88_40 : decode cJ13_bitCount_95d88 40 = .ok (.lstore_n 0, 1) := by decide +kernel
theorem dJ13_bitCount_95d88_41 : decode cJ13_bitCount_95d88 41 = .ok (.lload_n 0, 1) := by decide +kernel
theorem dJ13_bitCount_95d88_42 : decode cJ13_bitCount_95d88 42 = .ok (.lload_n 0, 1) := by decide +kernel
theorem dJ13_bitCount_95d88_43 : decode cJ13_bitCount_95d88 43 = .ok (.bipush 16, 2) := by decide +kernel
theorem dJ13_bitCount_95d88_45 : decode cJ13_bitCount_95d88 45 = .ok (.lushr, 1) := by decide +kernel
theorem dJ13_bitCount_95d88_46 : decode cJ13_bitCount_95d88 46 = .ok (.ladd, 1) := by decide +kernel
theorem dJ13_bitCount_95d88_47 : decode cJ13_bitCount_95d88 47 = .ok (.lstore_n 0, 1) := by decide +kernel
theorem dJ13_bitCount_95d88_48 : decode cJ13_bitCount_95d88 48 = .ok (.lload_n 0, 1) := by decide +kernel
theorem dJ13_bitCount_95d88_49 : decode cJ13_bitCount_95d88 49 = .ok (.lload_n 0, 1) := by decide +kernel
theorem dJ13_bitCount_95d88_50 : decode cJ13_bitCount_95d88 50 = .ok (.bipush 32, 2) := by decide +kernel
theorem dJ13_bitCount_95d88_52 : decode cJ13_bitCount_95d88 52 = .ok (.lushr, 1) := by decide +kernel
theorem dJ13_bitCount_95d88_53 : decode cJ13_bitCount_95d88 53 = .ok (.ladd, 1) := by decide +kernel
theorem dJ13_bitCount_95d88_54 : decode cJ13_bitCount_95d88 54 = .ok (.lstore_n 0, 1) := by decide +kernel
theorem dJ13_bitCount_95d88_55 : decode cJ13_bitCount_95d88 55 = .ok (.lload_n 0, 1) := by decide +kernel
theorem dJ13_bitCount_95d88_56 : decode cJ13_bitCount_95d88 56 = .ok (.l2i, 1) := by decide +kernel
theorem dJ13_bitCount_95d88_57 : decode cJ13_bitCount_95d88 57 = .ok (.bipush 127, 2) := by decide +kernel
theorem dJ13_bitCount_95d88_59 : decode cJ13_bitCount_95d88 59 = .ok (.iand, 1) := by decide +kernel
theorem dJ13_bitCount_95d88_60 : decode cJ13_bitCount_95d88 60 = .ok (.ireturn, 1) := by decide +kernel
theorem dJ7_fill_d0a16_0 : decode cJ7_fill_d0a16 0 = .ok (.iconst 0, 1) := by decide +kernel
theorem dJ7_fill_d0a16_1 : decode cJ7_fill_d0a16 1 = .ok (.istore_n 3, 1) := by decide +kernel
theorem dJ7_fill_d0a16_2 : decode cJ7_fill_d0a16 2 = .ok (.aload_n 0, 1) := by decide +kernel
theorem dJ7_fill_d0a16_3 : decode cJ7_fill_d0a16 3 = .ok (.arraylength, 1) := by decide +kernel
theorem dJ7_fill_d0a16_4 : decode cJ7_fill_d0a16 4 = .ok (.istore 4, 2) := by decide +kernel
theorem dJ7_fill_d0a16_6 : decode cJ7_fill_d0a16 6 = .ok (.iload_n 3, 1) := by decide +kernel
theorem dJ7_fill_d0a16_7 : decode cJ7_fill_d0a16 7 = .ok (.iload 4, 2) := by decide +kernel
theorem dJ7_fill_d0a16_9 : decode cJ7_fill_d0a16 9 = .ok (.if_icmp .ge 13, 3) := by decide +kernel
theorem dJ7_fill_d0a16_12 : decode cJ7_fill_d0a16 12 = .ok (.aload_n 0, 1) := by decide +kernel
theorem dJ7_fill_d0a16_13 : decode cJ7_fill_d0a16 13 = .ok (.iload_n 3, 1) := by decide +kernel
theorem dJ7_fill_d0a16_14 : decode cJ7_fill_d0a16 14 = .ok (.lload_n 1, 1) := by decide +kernel
theorem dJ7_fill_d0a16_15 : decode cJ7_fill_d0a16 15 = .ok (.lastore, 1) := by decide +kernel
theorem dJ7_fill_d0a16_16 : decode cJ7_fill_d0a16 16 = .ok (.iinc 3 1, 3) := by decide +kernel
theorem dJ7_fill_d0a16_19 : decode cJ7_fill_d0a16 19 = .ok (.goto (-13), 3) := by decide +kernel
theorem dJ7_fill_d0a16_22 : decode cJ7_fill_d0a16 22 = .ok (.return_, 1) := by decide +kernel
theorem dJ7_fill_53178_0 : decode cJ7_fill_53178 0 = .ok (.iconst 0, 1) := by decide +kernel
theorem dJ7_fill_53178_1 : decode cJ7_fill_53178 1 = .ok (.istore_n 2, 1) := by decide +kernel
theorem dJ7_fill_53178_2 : decode cJ7_fill_53178 2 = .ok (.aload_n 0, 1) := by decide +kernel
theorem dJ7_fill_53178_3 : decode cJ7_fill_53178 3 = .ok (.arraylength, 1) := by decide +kernel
theorem dJ7_fill_53178_4 : decode cJ7_fill_53178 4 = .ok (.istore_n 3, 1) := by decide +kernel
theorem dJ7_fill_53178_5 : decode cJ7_fill_53178 5 = .ok (.iload_n 2, 1) := by decide +kernel
theorem dJ7_fill_53178_6 : decode cJ7_fill_53178 6 = .ok (.iload_n 3, 1) := by decide +kernel
theorem dJ7_fill_53178_7 : decode cJ7_fill_53178 7 = .ok (.if_icmp .ge 13, 3) := by decide +kernel
theorem dJ7_fill_53178_10 : decode cJ7_fill_53178 10 = .ok (.aload_n 0, 1) := by decide +kernel
theorem dJ7_fill_53178_11 : decode cJ7_fill_53178 11 = .ok (.iload_n 2, 1) := by decide +kernel
theorem dJ7_fill_53178_12 : decode cJ7_fill_53178 12 = .ok (.iload_n 1, 1) := by decide +kernel
theorem dJ7_fill_53178_13 : decode cJ7_fill_53178 13 = .ok (.iastore, 1) := by decide +kernel
theorem dJ7_fill_53178_14 : decode cJ7_fill_53178 14 = .ok (.iinc 2 1, 3) := by decide +kernel
theorem dJ7_fill_53178_17 : decode cJ7_fill_53178 17 = .ok (.goto (-12), 3) := by decide +kernel
theorem dJ7_fill_53178_20 : decode cJ7_fill_53178 20 = .ok (.return_, 1) := by decide +kernel
end
section
theorem dX6_init_0 : decode cX6_init 0 = .ok (.aload_n 0, 1) := by decide +kernel
theorem dX6_init_1 : decode cX6_init 1 = .ok (.invokespecial 1, 3) := by decide +kernel
theorem dX6_init_4 : decode cX6_init 4 = .ok (.aload_n 0, 1) := by decide +kernel
theorem dX6_init_5 : decode cX6_init 5 = .ok (.bipush 40, 2) := by decide +kernel
theorem dX6_init_7 : decode cX6_init 7 = .ok (.newarray .int, 2) := by decide +kernel
theorem dX6_init_9 : decode cX6_init 9 = .ok (.putfield 7, 3) := by decide +kernel
theorem dX6_init_12 : decode cX6_init 12 = .ok (.aload_n 0, 1) := by decide +kernel
theorem dX6_init_13 : decode cX6_init 13 = .ok (.bipush 40, 2) := by decide +kernel
theorem dX6_init_15 : decode cX6_init 15 = .ok (.newarray .int, 2) := by decide +kernel
theorem dX6_init_17 : decode cX6_init 17 = .ok (.putfield 13, 3) := by decide +kernel
theorem dX6_init_20 : decode cX6_init 20 = .ok (.aload_n 0, 1) := by decide +kernel
theorem dX6_init_21 : decode cX6_init 21 = .ok (.bipush 40, 2) := by decide +kernel
theorem dX6_init_23 : decode cX6_init 23 = .ok (.newarray .int, 2) := by decide +kernel
theorem dX6_init_25 : decode cX6_init 25 = .ok (.putfield 16, 3) := by decide +kernel
theorem dX6_init_28 : decode cX6_init 28 = .ok (.aload_n 0, 1) := by decide +kernel
theorem dX6_init_29 : decode cX6_init 29 = .ok (.bipush 40, 2) := by decide +kernel
theorem dX6_init_31 : decode cX6_init 31 = .ok (.newarray .int, 2) := by decide +kernel
theorem dX6_init_33 : decode cX6_init 33 = .ok (.putfield 19, 3) := by decide +kernel
theorem dX6_init_36 : decode cX6_init 36 = .ok (.aload_n 0, 1) := by decide +kernel
theorem dX6_init_37 : decode cX6_init 37 = .ok (.bipush 64, 2) := by decide +kernel
theorem dX6_init_39 : decode cX6_init 39 = .ok (.newarray .int, 2) := by decide +kernel
theorem dX6_init_41 : decode cX6_init 41 = .ok (.putfield 22, 3) := by decide +kernel
theorem dX6_init_44 : decode cX6_init 44 = .ok (.aload_n 0, 1) := by decide +kernel
theorem dX6_init_45 : decode cX6_init 45 = .ok (.bipush 16, 2) := by decide +kernel
theorem dX6_init_47 : decode cX6_init 47 = .ok (.newarray .int, 2) := by decide +kernel
theorem dX6_init_49 : decode cX6_init 49 = .ok (.putfield 25, 3) := by decide +kernel
theorem dX6_init_52 : decode cX6_init 52 = .ok (.aload_n 0, 1) := by decide +kernel
theorem dX6_init_53 : decode cX6_init 53 = .ok (.bipush 40, 2) := by decide +kernel
theorem dX6_init_55 : decode cX6_init 55 = .ok (.newarray .int, 2) := by decide +kernel
theorem dX6_init_57 : decode cX6_init 57 = .ok (.putfield 28, 3) := by decide +kernel
theorem dX6_init_60 : decode cX6_init 60 = .ok (.aload_n 0, 1) := by decide +kernel
theorem dX6_init_61 : decode cX6_init 61 = .ok (.bipush 40, 2) := by decide +kernel
theorem dX6_init_63 : decode cX6_init 63 = .ok (.newarray .int, 2) := by decide +kernel
theorem dX6_init_65 : decode cX6_init 65 = .ok (.putfield 31, 3) := by decide +kernel
theorem dX6_init_68 : decode cX6_init 68 = .ok (.aload_n 0, 1) := by decide +kernel
theorem dX6_init_69 : decode cX6_init 69 = .ok (.bipush 40, 2) := by decide +kernel
theorem dX6_init_71 : decode cX6_init 71 = .ok (.newarray .int, 2) := by decide +kernel
theorem dX6_init_73 : decode cX6_init 73 = .ok (.putfield 34, 3) := by decide +kernel
theorem dX6_init_76 : decode cX6_init 76 = .ok (.aload_n 0, 1) := by decide +kernel
theorem dX6_init_77 : decode cX6_init 77 = .ok (.bipush 40, 2) := by decide +kernel
theorem dX6_init_79 : decode cX6_init 79 = .ok (.newarray .int, 2) := by decide +kernel
theorem dX6_init_81 : decode cX6_init 81 = .ok (.putfield 37, 3) := by decide +kernel
theorem dX6_init_84 : decode cX6_init 84 = .ok (.aload_n 0, 1) := by decide +kernel
theorem dX6_init_85 : decode cX6_init 85 = .ok (.bipush 40, 2) := by decide +kernel
theorem dX6_init_87 : decode cX6_init 87 = .ok (.newarray .int, 2) := by decide +kernel
theorem dX6_init_89 : decode cX6_init 89 = .ok (.putfield 40, 3) := by decide +kernel
theorem dX6_init_92 : decode cX6_init 92 = .ok (.aload_n 0, 1) := by decide +kernel
theorem dX6_init_93 : decode cX6_init 93 = .ok (.bipush 40, 2) := by decide +kernel
theorem dX6_init_95 : decode cX6_init 95 = .ok (.newarray .int, 2) := by decide +kernel
theorem dX6_init_97 : decode cX6_init 97 = .ok (.putfield 43, 3) := by decide +kernel
theorem dX6_init_100 : decode cX6_init 100 = .ok (.aload_n 0, 1) := by decide +kernel
theorem dX6_init_101 : decode cX6_init 101 = .ok (.bipush 25, 2) := by decide +kernel
theorem dX6_init_103 : decode cX6_init 103 = .ok (.newarray .int, 2) := by decide +kernel
theorem dX6_init_105 : decode cX6_init 105 = .ok (.putfield 46, 3) := by decide +kernel
theorem dX6_init_108 : decode cX6_init 108 = .ok (.aload_n 0, 1) := by decide +kernel
theorem dX6_init_109 : decode cX6_init 109 = .ok (.bipush 17, 2) := by decide +kernel
theorem dX6_init_111 : decode cX6_init 111 = .ok (.newarray .int, 2) := by decide +kernel
theorem dX6_init_113 : decode cX6_init 113 = .ok (.putfield 49, 3) := by decide +kernel
theorem dX6_init_116 : decode cX6_init 116 = .ok (.aload_n 0, 1) := by decide +kernel
theorem dX6_init_117 : decode cX6_init 117 = .ok (.bipush 17, 2) := by decide +kernel
theorem dX6_init_119 : decode cX6_init 119 = .ok (.newarray .boolean, 2) := by decide +kernel
theorem dX6_init_121 : decode cX6_init 121 = .ok (.putfield 52, 3) := by decide +kernel
theorem dX6_init_124 : decode cX6_init 124 = .ok (.aload_n 0, 1) := by decide +kernel
theorem dX6_init_125 : decode cX6_init 125 = .ok (.bipush 25, 2) := by decide +kernel
theorem dX6_init_127 : decode cX6_init 127 = .ok (.newarray .int, 2) := by decide +kernel
theorem dX6_init_129 : decode cX6_init 129 = .ok (.putfield 56, 3) := by decide +kernel
theorem dX6_init_132 : decode cX6_init 132 = .ok (.aload_n 0, 1) := by decide +kernel
theorem dX6_init_133 : decode cX6_init 133 = .ok (.sipush 9400, 3) := by decide +kernel
theorem dX6_init_136 : decode cX6_init 136 = .ok (.newarray .long, 2) := by decide +kernel
theorem dX6_init_138 : decode cX6_init 138 = .ok (.putfield 59, 3) := by decide +kernel
theorem dX6_init_141 : decode cX6_init 141 = .ok (.aload_n 0, 1) := by decide +kernel
theorem dX6_init_142 : decode cX6_init 142 = .ok (.iconst 3, 1) := by decide +kernel
theorem dX6_init_143 : decode cX6_init 143 = .ok (.iconst 3, 1) := by decide +kernel
theorem dX6_init_144 : decode cX6_init 144 = .ok (.invokevirtual 63, 3) := by decide +kernel
theorem dX6_init_147 : decode cX6_init 147 = .ok (.return_, 1) := by decide +kernel
theorem dX6_thrown_0 : decode cX6_thrown 0 = .ok (.aload_n 0, 1) := by decide +kernel
theorem dX6_thrown_1 : decode cX6_thrown 1 = .ok (.getfield 67, 3) := by decide +kernel
theorem dX6_thrown_4 : decode cX6_thrown 4 = .ok (.ireturn, 1) := by decide +kernel
theorem dX6_may_0 : decode cX6_may 0 = .ok (.aload_n 0, 1) := by decide +kernel
theorem dX6_may_1 : decode cX6_may 1 = .ok (.iload_n 1, 1) := by decide +kernel
theorem dX6_may_2 : decode cX6_may 2 = .ok (.ifCond .eq 7, 3) := by decide +kernel
theorem dX6_may_5 : decode cX6_may 5 = .ok (.iconst 0, 1) := by decide +kernel
theorem dX6_may_6 : decode cX6_may 6 = .ok (.goto 4, 3) := by decide +kernel
theorem dX6_may_9 : decode cX6_may 9 = .ok (.iconst 1, 1) := by decide +kernel
theorem dX6_may_10 : decode cX6_may 10 = .ok (.putfield 67, 3) := by decide +kernel
theorem dX6_may_13 : decode cX6_may 13 = .ok (.iload_n 1, 1) := by decide +kernel
theorem dX6_may_14 : decode cX6_may 14 = .ok (.ireturn, 1) := by decide +kernel
theorem dX6_mayBoth_0 : decode cX6_mayBoth 0 = .ok (.aload_n 0, 1) := by decide +kernel
theorem dX6_mayBoth_1 : decode cX6_mayBoth 1 = .ok (.iload_n 1, 1) := by decide +kernel
theorem dX6_mayBoth_2 : decode cX6_mayBoth 2 = .ok (.ifCond .ne 7, 3) := by decide +kernel
theorem dX6_mayBoth_5 : decode cX6_mayBoth 5 = .ok (.iconst 1, 1) := by decide +kernel
theorem dX6_mayBoth_6 : decode cX6_mayBoth 6 = .ok (.goto 12, 3) := by decide +kernel
theorem dX6_mayBoth_9 : decode cX6_mayBoth 9 = .ok (.iload_n 2, 1) := by decide +kernel
theorem dX6_mayBoth_10 : decode cX6_mayBoth 10 = .ok (.ifCond .ne 7, 3) := by decide +kernel
theorem dX6_mayBoth_13 : decode cX6_mayBoth 13 = .ok (.iconst 2, 1) := by decide +kernel
theorem dX6_mayBoth_14 : decode cX6_mayBoth 14 = .ok (.goto 4, 3) := by decide +kernel
theorem dX6_mayBoth_17 : decode cX6_mayBoth 17 = .ok (.iconst 0, 1) := by decide +kernel
theorem dX6_mayBoth_18 : decode cX6_mayBoth 18 = .ok (.putfield 67, 3) := by decide +kernel
theorem dX6_mayBoth_21 : decode cX6_mayBoth 21 = .ok (.aload_n 0, 1) := by decide +kernel
theorem dX6_mayBoth_22 : decode cX6_mayBoth 22 = .ok (.getfield 67, 3) := by decide +kernel
theorem dX6_mayBoth_25 : decode cX6_mayBoth 25 = .ok (.ifCond .ne 7, 3) := by decide +kernel
theorem dX6_mayBoth_28 : decode cX6_mayBoth 28 = .ok (.iconst 1, 1) := by decide +kernel
theorem dX6_mayBoth_29 : decode cX6_mayBoth 29 = .ok (.goto 4, 3) := by decide +kernel
theorem dX6_mayBoth_32 : decode cX6_mayBoth 32 = .ok (.iconst 0, 1) := by decide +kernel
theorem dX6_mayBoth_33 : decode cX6_mayBoth 33 = .ok (.ireturn, 1) := by decide +kernel
theorem dX6_isCell_0 : decode cX6_isCell 0 = .ok (.iload_n 1, 1) := by decide +kernel
theorem dX6_isCell_1 : decode cX6_isCell 1 = .ok (.ifCond .lt 15, 3) := by decide +kernel
theorem dX6_isCell_4 : decode cX6_isCell 4 = .ok (.iload_n 1, 1) := by decide +kernel
theorem dX6_isCell_5 : decode cX6_isCell 5 = .ok (.aload_n 0, 1) := by decide +kernel
theorem dX6_isCell_6 : decode cX6_isCell 6 = .ok (.getfield 71, 3) := by decide +kernel
theorem dX6_isCell_9 : decode cX6_isCell 9 = .ok (.if_icmp .ge 7, 3) := by decide +kernel
theorem dX6_isCell_12 : decode cX6_isCell 12 = .ok (.iconst 1, 1) := by decide +kernel
theorem dX6_isCell_13 : decode cX6_isCell 13 = .ok (.goto 4, 3) := by decide +kernel
theorem dX6_isCell_16 : decode cX6_isCell 16 = .ok (.iconst 0, 1) := by decide +kernel
theorem dX6_isCell_17 : decode cX6_isCell 17 = .ok (.ireturn, 1) := by decide +kernel
theorem dX6_isEdge_0 : decode cX6_isEdge 0 = .ok (.iload_n 1, 1) := by decide +kernel
theorem dX6_isEdge_1 : decode cX6_isEdge 1 = .ok (.ifCond .lt 15, 3) := by decide +kernel
theorem dX6_isEdge_4 : decode cX6_isEdge 4 = .ok (.iload_n 1, 1) := by decide +kernel
theorem dX6_isEdge_5 : decode cX6_isEdge 5 = .ok (.aload_n 0, 1) := by decide +kernel
theorem dX6_isEdge_6 : decode cX6_isEdge 6 = .ok (.getfield 74, 3) := by decide +kernel
theorem dX6_isEdge_9 : decode cX6_isEdge 9 = .ok (.if_icmp .ge 7, 3) := by decide +kernel
theorem dX6_isEdge_12 : decode cX6_isEdge 12 = .ok (.iconst 1, 1) := by decide +kernel
theorem dX6_isEdge_13 : decode cX6_isEdge 13 = .ok (.goto 4, 3) := by decide +kernel
theorem dX6_isEdge_16 : decode cX6_isEdge 16 = .ok (.iconst 0, 1) := by decide +kernel
theorem dX6_isEdge_17 : decode cX6_isEdge 17 = .ok (.ireturn, 1) := by decide +kernel
theorem dX6_cellAt_0 : decode cX6_cellAt 0 = .ok (.iload_n 1, 1) := by decide +kernel
theorem dX6_cellAt_1 : decode cX6_cellAt 1 = .ok (.ifCond .lt 34, 3) := by decide +kernel
theorem dX6_cellAt_4 : decode cX6_cellAt 4 = .ok (.iload_n 1, 1) := by decide +kernel
theorem dX6_cellAt_5 : decode cX6_cellAt 5 = .ok (.aload_n 0, 1) := by decide +kernel
theorem dX6_cellAt_6 : decode cX6_cellAt 6 = .ok (.getfield 77, 3) := by decide +kernel
theorem dX6_cellAt_9 : decode cX6_cellAt 9 = .ok (.if_icmp .ge 26, 3) := by decide +kernel
theorem dX6_cellAt_12 : decode cX6_cellAt 12 = .ok (.iload_n 2, 1) := by decide +kernel
theorem dX6_cellAt_13 : decode cX6_cellAt 13 = .ok (.ifCond .lt 22, 3) := by decide +kernel
theorem dX6_cellAt_16 : decode cX6_cellAt 16 = .ok (.iload_n 2, 1) := by decide +kernel
theorem dX6_cellAt_17 : decode cX6_cellAt 17 = .ok (.aload_n 0, 1) := by decide +kernel
theorem dX6_cellAt_18 : decode cX6_cellAt 18 = .ok (.getfield 80, 3) := by decide +kernel
theorem dX6_cellAt_21 : decode cX6_cellAt 21 = .ok (.if_icmp .ge 14, 3) := by decide +kernel
theorem dX6_cellAt_24 : decode cX6_cellAt 24 = .ok (.iload_n 1, 1) := by decide +kernel
theorem dX6_cellAt_25 : decode cX6_cellAt 25 = .ok (.aload_n 0, 1) := by decide +kernel
theorem dX6_cellAt_26 : decode cX6_cellAt 26 = .ok (.getfield 80, 3) := by decide +kernel
theorem dX6_cellAt_29 : decode cX6_cellAt 29 = .ok (.imul, 1) := by decide +kernel
theorem dX6_cellAt_30 : decode cX6_cellAt 30 = .ok (.iload_n 2, 1) := by decide +kernel
theorem dX6_cellAt_31 : decode cX6_cellAt 31 = .ok (.iadd, 1) := by decide +kernel
theorem dX6_cellAt_32 : decode cX6_cellAt 32 = .ok (.goto 7, 3) := by decide +kernel
theorem dX6_cellAt_35 : decode cX6_cellAt 35 = .ok (.aload_n 0, 1) := by decide +kernel
theorem dX6_cellAt_36 : decode cX6_cellAt 36 = .ok (.getfield 71, 3) := by decide +kernel
theorem dX6_cellAt_39 : decode cX6_cellAt 39 = .ok (.ireturn, 1) := by decide +kernel
theorem dX6_lays_0 : decode cX6_lays 0 = .ok (.aload_n 0, 1) := by decide +kernel
theorem dX6_lays_1 : decode cX6_lays 1 = .ok (.iload_n 1, 1) := by decide +kernel
theorem dX6_lays_2 : decode cX6_lays 2 = .ok (.putfield 80, 3) := by decide +kernel
theorem dX6_lays_5 : decode cX6_lays 5 = .ok (.aload_n 0, 1) := by decide +kernel
theorem dX6_lays_6 : decode cX6_lays 6 = .ok (.iload_n 2, 1) := by decide +kernel
theorem dX6_lays_7 : decode cX6_lays 7 = .ok (.putfield 77, 3) := by decide +kernel
theorem dX6_lays_10 : decode cX6_lays 10 = .ok (.aload_n 0, 1) := by decide +kernel
theorem dX6_lays_11 : decode cX6_lays 11 = .ok (.iload_n 1, 1) := by decide +kernel
theorem dX6_lays_12 : decode cX6_lays 12 = .ok (.iload_n 2, 1) := by decide +kernel
theorem dX6_lays_13 : decode cX6_lays 13 = .ok (.imul, 1) := by decide +kernel
theorem dX6_lays_14 : decode cX6_lays 14 = .ok (.putfield 71, 3) := by decide +kernel
theorem dX6_lays_17 : decode cX6_lays 17 = .ok (.aload_n 0, 1) := by decide +kernel
theorem dX6_lays_18 : decode cX6_lays 18 = .ok (.iload_n 1, 1) := by decide +kernel
theorem dX6_lays_19 : decode cX6_lays 19 = .ok (.iconst 1, 1) := by decide +kernel
theorem dX6_lays_20 : decode cX6_lays 20 = .ok (.iadd, 1) := by decide +kernel
theorem dX6_lays_21 : decode cX6_lays 21 = .ok (.iload_n 2, 1) := by decide +kernel
theorem dX6_lays_22 : decode cX6_lays 22 = .ok (.iconst 1, 1) := by decide +kernel
theorem dX6_lays_23 : decode cX6_lays 23 = .ok (.iadd, 1) := by decide +kernel
theorem dX6_lays_24 : decode cX6_lays 24 = .ok (.imul, 1) := by decide +kernel
theorem dX6_lays_25 : decode cX6_lays 25 = .ok (.putfield 83, 3) := by decide +kernel
theorem dX6_lays_28 : decode cX6_lays 28 = .ok (.iload_n 2, 1) := by decide +kernel
theorem dX6_lays_29 : decode cX6_lays 29 = .ok (.iconst 1, 1) := by decide +kernel
theorem dX6_lays_30 : decode cX6_lays 30 = .ok (.iadd, 1) := by decide +kernel
theorem dX6_lays_31 : decode cX6_lays 31 = .ok (.iload_n 1, 1) := by decide +kernel
theorem dX6_lays_32 : decode cX6_lays 32 = .ok (.imul, 1) := by decide +kernel
theorem dX6_lays_33 : decode cX6_lays 33 = .ok (.istore_n 3, 1) := by decide +kernel
theorem dX6_lays_34 : decode cX6_lays 34 = .ok (.aload_n 0, 1) := by decide +kernel
theorem dX6_lays_35 : decode cX6_lays 35 = .ok (.iload_n 3, 1) := by decide +kernel
theorem dX6_lays_36 : decode cX6_lays 36 = .ok (.iload_n 2, 1) := by decide +kernel
theorem dX6_lays_37 : decode cX6_lays 37 = .ok (.iload_n 1, 1) := by decide +kernel
theorem dX6_lays_38 : decode cX6_lays 38 = .ok (.iconst 1, 1) := by decide +kernel
theorem dX6_lays_39 : decode cX6_lays 39 = .ok (.iadd, 1) := by decide +kernel
theorem dX6_lays_40 : decode cX6_lays 40 = .ok (.imul, 1) := by decide +kernel
theorem dX6_lays_41 : decode cX6_lays 41 = .ok (.iadd, 1) := by decide +kernel
theorem dX6_lays_42 : decode cX6_lays 42 = .ok (.putfield 74, 3) := by decide +kernel
theorem dX6_lays_45 : decode cX6_lays 45 = .ok (.iconst 0, 1) := by decide +kernel
theorem dX6_lays_46 : decode cX6_lays 46 = .ok (.istore 4, 2) := by decide +kernel
theorem dX6_lays_48 : decode cX6_lays 48 = .ok (.iload 4, 2) := by decide +kernel
theorem dX6_lays_50 : decode cX6_lays 50 = .ok (.aload_n 0, 1) := by decide +kernel
theorem dX6_lays_51 : decode cX6_lays 51 = .ok (.getfield 74, 3) := by decide +kernel
theorem dX6_lays_54 : decode cX6_lays 54 = .ok (.if_icmp .ge 175, 3) := by decide +kernel
theorem dX6_lays_57 : decode cX6_lays 57 = .ok (.iload 4, 2) := by decide +kernel
theorem dX6_lays_59 : decode cX6_lays 59 = .ok (.iload_n 3, 1) := by decide +kernel
theorem dX6_lays_60 : decode cX6_lays 60 = .ok (.if_icmp .ge 7, 3) := by decide +kernel
theorem dX6_lays_63 : decode cX6_lays 63 = .ok (.iconst 1, 1) := by decide +kernel
theorem dX6_lays_64 : decode cX6_lays 64 = .ok (.goto 4, 3) := by decide +kernel
theorem dX6_lays_67 : decode cX6_lays 67 = .ok (.iconst 0, 1) := by decide +kernel
theorem dX6_lays_68 : decode cX6_lays 68 = .ok (.istore 5, 2) := by decide +kernel
theorem dX6_lays_70 : decode cX6_lays 70 = .ok (.iload 5, 2) := by decide +kernel
theorem dX6_lays_72 : decode cX6_lays 72 = .ok (.ifCond .eq 10, 3) := by decide +kernel
theorem dX6_lays_75 : decode cX6_lays 75 = .ok (.iload 4, 2) := by decide +kernel
theorem dX6_lays_77 : decode cX6_lays 77 = .ok (.iload_n 1, 1) := by decide +kernel
theorem dX6_lays_78 : decode cX6_lays 78 = .ok (.idiv, 1) := by decide +kernel
theorem dX6_lays_79 : decode cX6_lays 79 = .ok (.goto 11, 3) := by decide +kernel
theorem dX6_lays_82 : decode cX6_lays 82 = .ok (.iload 4, 2) := by decide +kernel
theorem dX6_lays_84 : decode cX6_lays 84 = .ok (.iload_n 3, 1) := by decide +kernel
theorem dX6_lays_85 : decode cX6_lays 85 = .ok (.isub, 1) := by decide +kernel
theorem dX6_lays_86 : decode cX6_lays 86 = .ok (.iload_n 1, 1) := by decide +kernel
theorem dX6_lays_87 : decode cX6_lays 87 = .ok (.iconst 1, 1) := by decide +kernel
theorem dX6_lays_88 : decode cX6_lays 88 = .ok (.iadd, 1) := by decide +kernel
theorem dX6_lays_89 : decode cX6_lays 89 = .ok (.idiv, 1) := by decide +kernel
theorem dX6_lays_90 : decode cX6_lays 90 = .ok (.istore 6, 2) := by decide +kernel
theorem dX6_lays_92 : decode cX6_lays 92 = .ok (.iload 5, 2) := by decide +kernel
theorem dX6_lays_94 : decode cX6_lays 94 = .ok (.ifCond .eq 10, 3) := by decide +kernel
theorem dX6_lays_97 : decode cX6_lays 97 = .ok (.iload 4, 2) := by decide +kernel
theorem dX6_lays_99 : decode cX6_lays 99 = .ok (.iload_n 1, 1) := by decide +kernel
theorem dX6_lays_100 : decode cX6_lays 100 = .ok (.irem, 1) := by decide +kernel
theorem dX6_lays_101 : decode cX6_lays 101 = .ok (.goto 11, 3) := by decide +kernel
theorem dX6_lays_104 : decode cX6_lays 104 = .ok (.iload 4, 2) := by decide +kernel
theorem dX6_lays_106 : decode cX6_lays 106 = .ok (.iload_n 3, 1) := by decide +kernel
theorem dX6_lays_107 : decode cX6_lays 107 = .ok (.isub, 1) := by decide +kernel
theorem dX6_lays_108 : decode cX6_lays 108 = .ok (.iload_n 1, 1) := by decide +kernel
theorem dX6_lays_109 : decode cX6_lays 109 = .ok (.iconst 1, 1) := by decide +kernel
theorem dX6_lays_110 : decode cX6_lays 110 = .ok (.iadd, 1) := by decide +kernel
theorem dX6_lays_111 : decode cX6_lays 111 = .ok (.irem, 1) := by decide +kernel
theorem dX6_lays_112 : decode cX6_lays 112 = .ok (.istore 7, 2) := by decide +kernel
theorem dX6_lays_114 : decode cX6_lays 114 = .ok (.aload_n 0, 1) := by decide +kernel
theorem dX6_lays_115 : decode cX6_lays 115 = .ok (.getfield 7, 3) := by decide +kernel
theorem dX6_lays_118 : decode cX6_lays 118 = .ok (.iload 4, 2) := by decide +kernel
theorem dX6_lays_120 : decode cX6_lays 120 = .ok (.iload 6, 2) := by decide +kernel
theorem dX6_lays_122 : decode cX6_lays 122 = .ok (.iload_n 1, 1) := by decide +kernel
theorem dX6_lays_123 : decode cX6_lays 123 = .ok (.iconst 1, 1) := by decide +kernel
theorem dX6_lays_124 : decode cX6_lays 124 = .ok (.iadd, 1) := by decide +kernel
theorem dX6_lays_125 : decode cX6_lays 125 = .ok (.imul, 1) := by decide +kernel
theorem dX6_lays_126 : decode cX6_lays 126 = .ok (.iload 7, 2) := by decide +kernel
theorem dX6_lays_128 : decode cX6_lays 128 = .ok (.iadd, 1) := by decide +kernel
theorem dX6_lays_129 : decode cX6_lays 129 = .ok (.iastore, 1) := by decide +kernel
theorem dX6_lays_130 : decode cX6_lays 130 = .ok (.aload_n 0, 1) := by decide +kernel
theorem dX6_lays_131 : decode cX6_lays 131 = .ok (.getfield 13, 3) := by decide +kernel
theorem dX6_lays_134 : decode cX6_lays 134 = .ok (.iload 4, 2) := by decide +kernel
theorem dX6_lays_136 : decode cX6_lays 136 = .ok (.iload 5, 2) := by decide +kernel
theorem dX6_lays_138 : decode cX6_lays 138 = .ok (.ifCond .eq 15, 3) := by decide +kernel
theorem dX6_lays_141 : decode cX6_lays 141 = .ok (.aload_n 0, 1) := by decide +kernel
theorem dX6_lays_142 : decode cX6_lays 142 = .ok (.getfield 7, 3) := by decide +kernel
theorem dX6_lays_145 : decode cX6_lays 145 = .ok (.iload 4, 2) := by decide +kernel
theorem dX6_lays_147 : decode cX6_lays 147 = .ok (.iaload, 1) := by decide +kernel
theorem dX6_lays_148 : decode cX6_lays 148 = .ok (.iconst 1, 1) := by decide +kernel
theorem dX6_lays_149 : decode cX6_lays 149 = .ok (.iadd, 1) := by decide +kernel
theorem dX6_lays_150 : decode cX6_lays 150 = .ok (.goto 14, 3) := by decide +kernel
theorem dX6_lays_153 : decode cX6_lays 153 = .ok (.aload_n 0, 1) := by decide +kernel
theorem dX6_lays_154 : decode cX6_lays 154 = .ok (.getfield 7, 3) := by decide +kernel
theorem dX6_lays_157 : decode cX6_lays 157 = .ok (.iload 4, 2) := by decide +kernel
theorem dX6_lays_159 : decode cX6_lays 159 = .ok (.iaload, 1) := by decide +kernel
theorem dX6_lays_160 : decode cX6_lays 160 = .ok (.iload_n 1, 1) := by decide +kernel
theorem dX6_lays_161 : decode cX6_lays 161 = .ok (.iadd, 1) := by decide +kernel
theorem dX6_lays_162 : decode cX6_lays 162 = .ok (.iconst 1, 1) := by decide +kernel
theorem dX6_lays_163 : decode cX6_lays 163 = .ok (.iadd, 1) := by decide +kernel
theorem dX6_lays_164 : decode cX6_lays 164 = .ok (.iastore, 1) := by decide +kernel
theorem dX6_lays_165 : decode cX6_lays 165 = .ok (.aload_n 0, 1) := by decide +kernel
theorem dX6_lays_166 : decode cX6_lays 166 = .ok (.getfield 16, 3) := by decide +kernel
theorem dX6_lays_169 : decode cX6_lays 169 = .ok (.iload 4, 2) := by decide +kernel
theorem dX6_lays_171 : decode cX6_lays 171 = .ok (.iload 5, 2) := by decide +kernel
theorem dX6_lays_173 : decode cX6_lays 173 = .ok (.ifCond .eq 16, 3) := by decide +kernel
theorem dX6_lays_176 : decode cX6_lays 176 = .ok (.aload_n 0, 1) := by decide +kernel
theorem dX6_lays_177 : decode cX6_lays 177 = .ok (.iload 6, 2) := by decide +kernel
theorem dX6_lays_179 : decode cX6_lays 179 = .ok (.iconst 1, 1) := by decide +kernel
theorem dX6_lays_180 : decode cX6_lays 180 = .ok (.isub, 1) := by decide +kernel
theorem dX6_lays_181 : decode cX6_lays 181 = .ok (.iload 7, 2) := by decide +kernel
theorem dX6_lays_183 : decode cX6_lays 183 = .ok (.invokevirtual 86, 3) := by decide +kernel
theorem dX6_lays_186 : decode cX6_lays 186 = .ok (.goto 13, 3) := by decide +kernel
theorem dX6_lays_189 : decode cX6_lays 189 = .ok (.aload_n 0, 1) := by decide +kernel
theorem dX6_lays_190 : decode cX6_lays 190 = .ok (.iload 6, 2) := by decide +kernel
theorem dX6_lays_192 : decode cX6_lays 192 = .ok (.iload 7, 2) := by decide +kernel
theorem dX6_lays_194 : decode cX6_lays 194 = .ok (.iconst 1, 1) := by decide +kernel
theorem dX6_lays_195 : decode cX6_lays 195 = .ok (.isub, 1) := by decide +kernel
theorem dX6_lays_196 : decode cX6_lays 196 = .ok (.invokevirtual 86, 3) := by decide +kernel
theorem dX6_lays_199 : decode cX6_lays 199 = .ok (.iastore, 1) := by decide +kernel
theorem dX6_lays_200 : decode cX6_lays 200 = .ok (.aload_n 0, 1) := by decide +kernel
theorem dX6_lays_201 : decode cX6_lays 201 = .ok (.getfield 19, 3) := by decide +kernel
theorem dX6_lays_204 : decode cX6_lays 204 = .ok (.iload 4, 2) := by decide +kernel
theorem dX6_lays_206 : decode cX6_lays 206 = .ok (.aload_n 0, 1) := by decide +kernel
theorem dX6_lays_207 : decode cX6_lays 207 = .ok (.iload 6, 2) := by decide +kernel
theorem dX6_lays_209 : decode cX6_lays 209 = .ok (.iload 7, 2) := by decide +kernel
theorem dX6_lays_211 : decode cX6_lays 211 = .ok (.invokevirtual 86, 3) := by decide +kernel
theorem dX6_lays_214 : decode cX6_lays 214 = .ok (.iastore, 1) := by decide +kernel
theorem dX6_lays_215 : decode cX6_lays 215 = .ok (.aload_n 0, 1) := by decide +kernel
theorem dX6_lays_216 : decode cX6_lays 216 = .ok (.getfield 28, 3) := by decide +kernel
theorem dX6_lays_219 : decode cX6_lays 219 = .ok (.iload 4, 2) := by decide +kernel
theorem dX6_lays_221 : decode cX6_lays 221 = .ok (.iconst 0, 1) := by decide +kernel
theorem dX6_lays_222 : decode cX6_lays 222 = .ok (.iastore, 1) := by decide +kernel
theorem dX6_lays_223 : decode cX6_lays 223 = .ok (.iinc 4 1, 3) := by decide +kernel
theorem dX6_lays_226 : decode cX6_lays 226 = .ok (.goto (-178), 3) := by decide +kernel
theorem dX6_lays_229 : decode cX6_lays 229 = .ok (.iconst 0, 1) := by decide +kernel
theorem dX6_lays_230 : decode cX6_lays 230 = .ok (.istore 4, 2) := by decide +kernel
theorem dX6_lays_232 : decode cX6_lays 232 = .ok (.iload 4, 2) := by decide +kernel
theorem dX6_lays_234 : decode cX6_lays 234 = .ok (.aload_n 0, 1) := by decide +kernel
theorem dX6_lays_235 : decode cX6_lays 235 = .ok (.getfield 71, 3) := by decide +kernel
theorem dX6_lays_238 : decode cX6_lays 238 = .ok (.if_icmp .ge 111, 3) := by decide +kernel
theorem dX6_lays_241 : decode cX6_lays 241 = .ok (.iload 4, 2) := by decide +kernel
theorem dX6_lays_243 : decode cX6_lays 243 = .ok (.iload_n 1, 1) := by decide +kernel
theorem dX6_lays_244 : decode cX6_lays 244 = .ok (.idiv, 1) := by decide +kernel
theorem dX6_lays_245 : decode cX6_lays 245 = .ok (.istore 5, 2) := by decide +kernel
theorem dX6_lays_247 : decode cX6_lays 247 = .ok (.iload 4, 2) := by decide +kernel
theorem dX6_lays_249 : decode cX6_lays 249 = .ok (.iload_n 1, 1) := by decide +kernel
theorem dX6_lays_250 : decode cX6_lays 250 = .ok (.irem, 1) := by decide +kernel
theorem dX6_lays_251 : decode cX6_lays 251 = .ok (.istore 6, 2) := by decide +kernel
theorem dX6_lays_253 : decode cX6_lays 253 = .ok (.aload_n 0, 1) := by decide +kernel
theorem dX6_lays_254 : decode cX6_lays 254 = .ok (.getfield 22, 3) := by decide +kernel
theorem dX6_lays_257 : decode cX6_lays 257 = .ok (.iconst 4, 1) := by decide +kernel
theorem dX6_lays_258 : decode cX6_lays 258 = .ok (.iload 4, 2) := by decide +kernel
theorem dX6_lays_260 : decode cX6_lays 260 = .ok (.imul, 1) := by decide +kernel
theorem dX6_lays_261 : decode cX6_lays 261 = .ok (.iload 5, 2) := by decide +kernel
theorem dX6_lays_263 : decode cX6_lays 263 = .ok (.iload_n 1, 1) := by decide +kernel
theorem dX6_lays_264 : decode cX6_lays 264 = .ok (.imul, 1) := by decide +kernel
theorem dX6_lays_265 : decode cX6_lays 265 = .ok (.iload 6, 2) := by decide +kernel
theorem dX6_lays_267 : decode cX6_lays 267 = .ok (.iadd, 1) := by decide +kernel
theorem dX6_lays_268 : decode cX6_lays 268 = .ok (.iastore, 1) := by decide +kernel
theorem dX6_lays_269 : decode cX6_lays 269 = .ok (.aload_n 0, 1) := by decide +kernel
theorem dX6_lays_270 : decode cX6_lays 270 = .ok (.getfield 22, 3) := by decide +kernel
theorem dX6_lays_273 : decode cX6_lays 273 = .ok (.iconst 4, 1) := by decide +kernel
theorem dX6_lays_274 : decode cX6_lays 274 = .ok (.iload 4, 2) := by decide +kernel
theorem dX6_lays_276 : decode cX6_lays 276 = .ok (.imul, 1) := by decide +kernel
theorem dX6_lays_277 : decode cX6_lays 277 = .ok (.iconst 1, 1) := by decide +kernel
theorem dX6_lays_278 : decode cX6_lays 278 = .ok (.iadd, 1) := by decide +kernel
theorem dX6_lays_279 : decode cX6_lays 279 = .ok (.iload 5, 2) := by decide +kernel
theorem dX6_lays_281 : decode cX6_lays 281 = .ok (.iconst 1, 1) := by decide +kernel
theorem dX6_lays_282 : decode cX6_lays 282 = .ok (.iadd, 1) := by decide +kernel
theorem dX6_lays_283 : decode cX6_lays 283 = .ok (.iload_n 1, 1) := by decide +kernel
theorem dX6_lays_284 : decode cX6_lays 284 = .ok (.imul, 1) := by decide +kernel
theorem dX6_lays_285 : decode cX6_lays 285 = .ok (.iload 6, 2) := by decide +kernel
theorem dX6_lays_287 : decode cX6_lays 287 = .ok (.iadd, 1) := by decide +kernel
theorem dX6_lays_288 : decode cX6_lays 288 = .ok (.iastore, 1) := by decide +kernel
theorem dX6_lays_289 : decode cX6_lays 289 = .ok (.aload_n 0, 1) := by decide +kernel
theorem dX6_lays_290 : decode cX6_lays 290 = .ok (.getfield 22, 3) := by decide +kernel
theorem dX6_lays_293 : decode cX6_lays 293 = .ok (.iconst 4, 1) := by decide +kernel
theorem dX6_lays_294 : decode cX6_lays 294 = .ok (.iload 4, 2) := by decide +kernel
theorem dX6_lays_296 : decode cX6_lays 296 = .ok (.imul, 1) := by decide +kernel
theorem dX6_lays_297 : decode cX6_lays 297 = .ok (.iconst 2, 1) := by decide +kernel
theorem dX6_lays_298 : decode cX6_lays 298 = .ok (.iadd, 1) := by decide +kernel
theorem dX6_lays_299 : decode cX6_lays 299 = .ok (.iload_n 3, 1) := by decide +kernel
theorem dX6_lays_300 : decode cX6_lays 300 = .ok (.iload 5, 2) := by decide +kernel
theorem dX6_lays_302 : decode cX6_lays 302 = .ok (.iload_n 1, 1) := by decide +kernel
theorem dX6_lays_303 : decode cX6_lays 303 = .ok (.iconst 1, 1) := by decide +kernel
theorem dX6_lays_304 : decode cX6_lays 304 = .ok (.iadd, 1) := by decide +kernel
theorem dX6_lays_305 : decode cX6_lays 305 = .ok (.imul, 1) := by decide +kernel
theorem dX6_lays_306 : decode cX6_lays 306 = .ok (.iadd, 1) := by decide +kernel
theorem dX6_lays_307 : decode cX6_lays 307 = .ok (.iload 6, 2) := by decide +kernel
theorem dX6_lays_309 : decode cX6_lays 309 = .ok (.iadd, 1) := by decide +kernel
theorem dX6_lays_310 : decode cX6_lays 310 = .ok (.iastore, 1) := by decide +kernel
theorem dX6_lays_311 : decode cX6_lays 311 = .ok (.aload_n 0, 1) := by decide +kernel
theorem dX6_lays_312 : decode cX6_lays 312 = .ok (.getfield 22, 3) := by decide +kernel
theorem dX6_lays_315 : decode cX6_lays 315 = .ok (.iconst 4, 1) := by decide +kernel
theorem dX6_lays_316 : decode cX6_lays 316 = .ok (.iload 4, 2) := by decide +kernel
theorem dX6_lays_318 : decode cX6_lays 318 = .ok (.imul, 1) := by decide +kernel
theorem dX6_lays_319 : decode cX6_lays 319 = .ok (.iconst 3, 1) := by decide +kernel
theorem dX6_lays_320 : decode cX6_lays 320 = .ok (.iadd, 1) := by decide +kernel
theorem dX6_lays_321 : decode cX6_lays 321 = .ok (.aload_n 0, 1) := by decide +kernel
theorem dX6_lays_322 : decode cX6_lays 322 = .ok (.getfield 22, 3) := by decide +kernel
theorem dX6_lays_325 : decode cX6_lays 325 = .ok (.iconst 4, 1) := by decide +kernel
theorem dX6_lays_326 : decode cX6_lays 326 = .ok (.iload 4, 2) := by decide +kernel
theorem dX6_lays_328 : decode cX6_lays 328 = .ok (.imul, 1) := by decide +kernel
theorem dX6_lays_329 : decode cX6_lays 329 = .ok (.iconst 2, 1) := by decide +kernel
theorem dX6_lays_330 : decode cX6_lays 330 = .ok (.iadd, 1) := by decide +kernel
theorem dX6_lays_331 : decode cX6_lays 331 = .ok (.iaload, 1) := by decide +kernel
theorem dX6_lays_332 : decode cX6_lays 332 = .ok (.iconst 1, 1) := by decide +kernel
theorem dX6_lays_333 : decode cX6_lays 333 = .ok (.iadd, 1) := by decide +kernel
theorem dX6_lays_334 : decode cX6_lays 334 = .ok (.iastore, 1) := by decide +kernel
theorem dX6_lays_335 : decode cX6_lays 335 = .ok (.aload_n 0, 1) := by decide +kernel
theorem dX6_lays_336 : decode cX6_lays 336 = .ok (.getfield 25, 3) := by decide +kernel
theorem dX6_lays_339 : decode cX6_lays 339 = .ok (.iload 4, 2) := by decide +kernel
theorem dX6_lays_341 : decode cX6_lays 341 = .ok (.iconst (-1), 1) := by decide +kernel
theorem dX6_lays_342 : decode cX6_lays 342 = .ok (.iastore, 1) := by decide +kernel
theorem dX6_lays_343 : decode cX6_lays 343 = .ok (.iinc 4 1, 3) := by decide +kernel
theorem dX6_lays_346 : decode cX6_lays 346 = .ok (.goto (-114), 3) := by decide +kernel
theorem dX6_lays_349 : decode cX6_lays 349 = .ok (.return_, 1) := by decide +kernel
theorem dX6_lay_0 : decode cX6_lay 0 = .ok (.aload_n 0, 1) := by decide +kernel
theorem dX6_lay_1 : decode cX6_lay 1 = .ok (.iload_n 1, 1) := by decide +kernel
theorem dX6_lay_2 : decode cX6_lay 2 = .ok (.iconst 1, 1) := by decide +kernel
theorem dX6_lay_3 : decode cX6_lay 3 = .ok (.if_icmp .lt 22, 3) := by decide +kernel
theorem dX6_lay_6 : decode cX6_lay 6 = .ok (.iload_n 1, 1) := by decide +kernel
theorem dX6_lay_7 : decode cX6_lay 7 = .ok (.iconst 4, 1) := by decide +kernel
theorem dX6_lay_8 : decode cX6_lay 8 = .ok (.if_icmp .gt 17, 3) := by decide +kernel
theorem dX6_lay_11 : decode cX6_lay 11 = .ok (.iload_n 2, 1) := by decide +kernel
theorem dX6_lay_12 : decode cX6_lay 12 = .ok (.iconst 1, 1) := by decide +kernel
theorem dX6_lay_13 : decode cX6_lay 13 = .ok (.if_icmp .lt 12, 3) := by decide +kernel
theorem dX6_lay_16 : decode cX6_lay 16 = .ok (.iload_n 2, 1) := by decide +kernel
theorem dX6_lay_17 : decode cX6_lay 17 = .ok (.iconst 4, 1) := by decide +kernel
theorem dX6_lay_18 : decode cX6_lay 18 = .ok (.if_icmp .gt 7, 3) := by decide +kernel
theorem dX6_lay_21 : decode cX6_lay 21 = .ok (.iconst 1, 1) := by decide +kernel
theorem dX6_lay_22 : decode cX6_lay 22 = .ok (.goto 4, 3) := by decide +kernel
theorem dX6_lay_25 : decode cX6_lay 25 = .ok (.iconst 0, 1) := by decide +kernel
theorem dX6_lay_26 : decode cX6_lay 26 = .ok (.invokevirtual 90, 3) := by decide +kernel
theorem dX6_lay_29 : decode cX6_lay 29 = .ok (.ifCond .eq 9, 3) := by decide +kernel
theorem dX6_lay_32 : decode cX6_lay 32 = .ok (.aload_n 0, 1) := by decide +kernel
theorem dX6_lay_33 : decode cX6_lay 33 = .ok (.iload_n 1, 1) := by decide +kernel
theorem dX6_lay_34 : decode cX6_lay 34 = .ok (.iload_n 2, 1) := by decide +kernel
theorem dX6_lay_35 : decode cX6_lay 35 = .ok (.invokevirtual 63, 3) := by decide +kernel
theorem dX6_lay_38 : decode cX6_lay 38 = .ok (.return_, 1) := by decide +kernel
theorem dX6_cells_0 : decode cX6_cells 0 = .ok (.aload_n 0, 1) := by decide +kernel
theorem dX6_cells_1 : decode cX6_cells 1 = .ok (.iconst 0, 1) := by decide +kernel
theorem dX6_cells_2 : decode cX6_cells 2 = .ok (.putfield 67, 3) := by decide +kernel
theorem dX6_cells_5 : decode cX6_cells 5 = .ok (.aload_n 0, 1) := by decide +kernel
theorem dX6_cells_6 : decode cX6_cells 6 = .ok (.getfield 71, 3) := by decide +kernel
theorem dX6_cells_9 : decode cX6_cells 9 = .ok (.ireturn, 1) := by decide +kernel
theorem dX6_edges_0 : decode cX6_edges 0 = .ok (.aload_n 0, 1) := by decide +kernel
theorem dX6_edges_1 : decode cX6_edges 1 = .ok (.iconst 0, 1) := by decide +kernel
theorem dX6_edges_2 : decode cX6_edges 2 = .ok (.putfield 67, 3) := by decide +kernel
theorem dX6_edges_5 : decode cX6_edges 5 = .ok (.aload_n 0, 1) := by decide +kernel
theorem dX6_edges_6 : decode cX6_edges 6 = .ok (.getfield 74, 3) := by decide +kernel
theorem dX6_edges_9 : decode cX6_edges 9 = .ok (.ireturn, 1) := by decide +kernel
theorem dX6_number_0 : decode cX6_number 0 = .ok (.aload_n 0, 1) := by decide +kernel
theorem dX6_number_1 : decode cX6_number 1 = .ok (.aload_n 0, 1) := by decide +kernel
theorem dX6_number_2 : decode cX6_number 2 = .ok (.iload_n 1, 1) := by decide +kernel
theorem dX6_number_3 : decode cX6_number 3 = .ok (.invokevirtual 94, 3) := by decide +kernel
theorem dX6_number_6 : decode cX6_number 6 = .ok (.iload_n 2, 1) := by decide +kernel
theorem dX6_number_7 : decode cX6_number 7 = .ok (.iconst (-1), 1) := by decide +kernel
theorem dX6_number_8 : decode cX6_number 8 = .ok (.if_icmp .lt 12, 3) := by decide +kernel
theorem dX6_number_11 : decode cX6_number 11 = .ok (.iload_n 2, 1) := by decide +kernel
theorem dX6_number_12 : decode cX6_number 12 = .ok (.iconst 3, 1) := by decide +kernel
theorem dX6_number_13 : decode cX6_number 13 = .ok (.if_icmp .gt 7, 3) := by decide +kernel
theorem dX6_number_16 : decode cX6_number 16 = .ok (.iconst 1, 1) := by decide +kernel
theorem dX6_number_17 : decode cX6_number 17 = .ok (.goto 4, 3) := by decide +kernel
theorem dX6_number_20 : decode cX6_number 20 = .ok (.iconst 0, 1) := by decide +kernel
theorem dX6_number_21 : decode cX6_number 21 = .ok (.invokevirtual 98, 3) := by decide +kernel
theorem dX6_number_24 : decode cX6_number 24 = .ok (.ifCond .ne 5, 3) := by decide +kernel
theorem dX6_number_27 : decode cX6_number 27 = .ok (.iconst 0, 1) := by decide +kernel
theorem dX6_number_28 : decode cX6_number 28 = .ok (.ireturn, 1) := by decide +kernel
theorem dX6_number_29 : decode cX6_number 29 = .ok (.aload_n 0, 1) := by decide +kernel
theorem dX6_number_30 : decode cX6_number 30 = .ok (.getfield 25, 3) := by decide +kernel
theorem dX6_number_33 : decode cX6_number 33 = .ok (.iload_n 1, 1) := by decide +kernel
theorem dX6_number_34 : decode cX6_number 34 = .ok (.iaload, 1) := by decide +kernel
theorem dX6_number_35 : decode cX6_number 35 = .ok (.istore_n 3, 1) := by decide +kernel
theorem dX6_number_36 : decode cX6_number 36 = .ok (.aload_n 0, 1) := by decide +kernel
theorem dX6_number_37 : decode cX6_number 37 = .ok (.getfield 25, 3) := by decide +kernel
theorem dX6_number_40 : decode cX6_number 40 = .ok (.iload_n 1, 1) := by decide +kernel
theorem dX6_number_41 : decode cX6_number 41 = .ok (.iload_n 2, 1) := by decide +kernel
theorem dX6_number_42 : decode cX6_number 42 = .ok (.iastore, 1) := by decide +kernel
theorem dX6_number_43 : decode cX6_number 43 = .ok (.iload_n 3, 1) := by decide +kernel
theorem dX6_number_44 : decode cX6_number 44 = .ok (.ireturn, 1) := by decide +kernel
theorem dX6_mark_0 : decode cX6_mark 0 = .ok (.aload_n 0, 1) := by decide +kernel
theorem dX6_mark_1 : decode cX6_mark 1 = .ok (.aload_n 0, 1) := by decide +kernel
theorem dX6_mark_2 : decode cX6_mark 2 = .ok (.iload_n 1, 1) := by decide +kernel
theorem dX6_mark_3 : decode cX6_mark 3 = .ok (.invokevirtual 102, 3) := by decide +kernel
theorem dX6_mark_6 : decode cX6_mark 6 = .ok (.iload_n 2, 1) := by decide +kernel
theorem dX6_mark_7 : decode cX6_mark 7 = .ok (.ifCond .lt 12, 3) := by decide +kernel
theorem dX6_mark_10 : decode cX6_mark 10 = .ok (.iload_n 2, 1) := by decide +kernel
theorem dX6_mark_11 : decode cX6_mark 11 = .ok (.iconst 2, 1) := by decide +kernel
theorem dX6_mark_12 : decode cX6_mark 12 = .ok (.if_icmp .gt 7, 3) := by decide +kernel
theorem dX6_mark_15 : decode cX6_mark 15 = .ok (.iconst 1, 1) := by decide +kernel
theorem dX6_mark_16 : decode cX6_mark 16 = .ok (.goto 4, 3) := by decide +kernel
theorem dX6_mark_19 : decode cX6_mark 19 = .ok (.iconst 0, 1) := by decide +kernel
theorem dX6_mark_20 : decode cX6_mark 20 = .ok (.invokevirtual 98, 3) := by decide +kernel
theorem dX6_mark_23 : decode cX6_mark 23 = .ok (.ifCond .ne 5, 3) := by decide +kernel
theorem dX6_mark_26 : decode cX6_mark 26 = .ok (.iconst 0, 1) := by decide +kernel
theorem dX6_mark_27 : decode cX6_mark 27 = .ok (.ireturn, 1) := by decide +kernel
theorem dX6_mark_28 : decode cX6_mark 28 = .ok (.aload_n 0, 1) := by decide +kernel
theorem dX6_mark_29 : decode cX6_mark 29 = .ok (.getfield 28, 3) := by decide +kernel
theorem dX6_mark_32 : decode cX6_mark 32 = .ok (.iload_n 1, 1) := by decide +kernel
theorem dX6_mark_33 : decode cX6_mark 33 = .ok (.iaload, 1) := by decide +kernel
theorem dX6_mark_34 : decode cX6_mark 34 = .ok (.istore_n 3, 1) := by decide +kernel
theorem dX6_mark_35 : decode cX6_mark 35 = .ok (.aload_n 0, 1) := by decide +kernel
theorem dX6_mark_36 : decode cX6_mark 36 = .ok (.getfield 28, 3) := by decide +kernel
theorem dX6_mark_39 : decode cX6_mark 39 = .ok (.iload_n 1, 1) := by decide +kernel
theorem dX6_mark_40 : decode cX6_mark 40 = .ok (.iload_n 2, 1) := by decide +kernel
theorem dX6_mark_41 : decode cX6_mark 41 = .ok (.iastore, 1) := by decide +kernel
theorem dX6_mark_42 : decode cX6_mark 42 = .ok (.iload_n 3, 1) := by decide +kernel
theorem dX6_mark_43 : decode cX6_mark 43 = .ok (.ireturn, 1) := by decide +kernel
theorem dX6_wipe_0 : decode cX6_wipe 0 = .ok (.aload_n 0, 1) := by decide +kernel
theorem dX6_wipe_1 : decode cX6_wipe 1 = .ok (.iconst 0, 1) := by decide +kernel
theorem dX6_wipe_2 : decode cX6_wipe 2 = .ok (.putfield 67, 3) := by decide +kernel
theorem dX6_wipe_5 : decode cX6_wipe 5 = .ok (.iconst 0, 1) := by decide +kernel
theorem dX6_wipe_6 : decode cX6_wipe 6 = .ok (.istore_n 1, 1) := by decide +kernel
theorem dX6_wipe_7 : decode cX6_wipe 7 = .ok (.iload_n 1, 1) := by decide +kernel
theorem dX6_wipe_8 : decode cX6_wipe 8 = .ok (.aload_n 0, 1) := by decide +kernel
theorem dX6_wipe_9 : decode cX6_wipe 9 = .ok (.getfield 74, 3) := by decide +kernel
theorem dX6_wipe_12 : decode cX6_wipe 12 = .ok (.if_icmp .ge 16, 3) := by decide +kernel
theorem dX6_wipe_15 : decode cX6_wipe 15 = .ok (.aload_n 0, 1) := by decide +kernel
theorem dX6_wipe_16 : decode cX6_wipe 16 = .ok (.getfield 28, 3) := by decide +kernel
theorem dX6_wipe_19 : decode cX6_wipe 19 = .ok (.iload_n 1, 1) := by decide +kernel
theorem dX6_wipe_20 : decode cX6_wipe 20 = .ok (.iconst 0, 1) := by decide +kernel
theorem dX6_wipe_21 : decode cX6_wipe 21 = .ok (.iastore, 1) := by decide +kernel
theorem dX6_wipe_22 : decode cX6_wipe 22 = .ok (.iinc 1 1, 3) := by decide +kernel
theorem dX6_wipe_25 : decode cX6_wipe 25 = .ok (.goto (-18), 3) := by decide +kernel
theorem dX6_wipe_28 : decode cX6_wipe 28 = .ok (.return_, 1) := by decide +kernel
theorem dX6_markAll_0 : decode cX6_markAll 0 = .ok (.aload_n 0, 1) := by decide +kernel
theorem dX6_markAll_1 : decode cX6_markAll 1 = .ok (.iconst 0, 1) := by decide +kernel
theorem dX6_markAll_2 : decode cX6_markAll 2 = .ok (.putfield 67, 3) := by decide +kernel
theorem dX6_markAll_5 : decode cX6_markAll 5 = .ok (.aload_n 0, 1) := by decide +kernel
theorem dX6_markAll_6 : decode cX6_markAll 6 = .ok (.invokevirtual 105, 3) := by decide +kernel
theorem dX6_markAll_9 : decode cX6_markAll 9 = .ok (.iconst 0, 1) := by decide +kernel
theorem dX6_markAll_10 : decode cX6_markAll 10 = .ok (.istore_n 1, 1) := by decide +kernel
theorem dX6_markAll_11 : decode cX6_markAll 11 = .ok (.iconst 0, 1) := by decide +kernel
theorem dX6_markAll_12 : decode cX6_markAll 12 = .ok (.istore_n 2, 1) := by decide +kernel
theorem dX6_markAll_13 : decode cX6_markAll 13 = .ok (.iload_n 2, 1) := by decide +kernel
theorem dX6_markAll_14 : decode cX6_markAll 14 = .ok (.aload_n 0, 1) := by decide +kernel
theorem dX6_markAll_15 : decode cX6_markAll 15 = .ok (.getfield 74, 3) := by decide +kernel
theorem dX6_markAll_18 : decode cX6_markAll 18 = .ok (.if_icmp .ge 51, 3) := by decide +kernel
theorem dX6_markAll_21 : decode cX6_markAll 21 = .ok (.aload_n 0, 1) := by decide +kernel
theorem dX6_markAll_22 : decode cX6_markAll 22 = .ok (.getfield 108, 3) := by decide +kernel
theorem dX6_markAll_25 : decode cX6_markAll 25 = .ok (.ifCond .ne 44, 3) := by decide +kernel
theorem dX6_markAll_28 : decode cX6_markAll 28 = .ok (.iload_n 1, 1) := by decide +kernel
theorem dX6_markAll_29 : decode cX6_markAll 29 = .ok (.aload_n 0, 1) := by decide +kernel
theorem dX6_markAll_30 : decode cX6_markAll 30 = .ok (.getfield 28, 3) := by decide +kernel
theorem dX6_markAll_33 : decode cX6_markAll 33 = .ok (.iload_n 2, 1) := by decide +kernel
theorem dX6_markAll_34 : decode cX6_markAll 34 = .ok (.iaload, 1) := by decide +kernel
theorem dX6_markAll_35 : decode cX6_markAll 35 = .ok (.aload_n 0, 1) := by decide +kernel
theorem dX6_markAll_36 : decode cX6_markAll 36 = .ok (.getfield 31, 3) := by decide +kernel
theorem dX6_markAll_39 : decode cX6_markAll 39 = .ok (.iload_n 2, 1) := by decide +kernel
theorem dX6_markAll_40 : decode cX6_markAll 40 = .ok (.iaload, 1) := by decide +kernel
theorem dX6_markAll_41 : decode cX6_markAll 41 = .ok (.if_icmp .ne 7, 3) := by decide +kernel
theorem dX6_markAll_44 : decode cX6_markAll 44 = .ok (.iconst 0, 1) := by decide +kernel
theorem dX6_markAll_45 : decode cX6_markAll 45 = .ok (.goto 4, 3) := by decide +kernel
theorem dX6_markAll_48 : decode cX6_markAll 48 = .ok (.iconst 1, 1) := by decide +kernel
theorem dX6_markAll_49 : decode cX6_markAll 49 = .ok (.iadd, 1) := by decide +kernel
theorem dX6_markAll_50 : decode cX6_markAll 50 = .ok (.istore_n 1, 1) := by decide +kernel
theorem dX6_markAll_51 : decode cX6_markAll 51 = .ok (.aload_n 0, 1) := by decide +kernel
theorem dX6_markAll_52 : decode cX6_markAll 52 = .ok (.getfield 28, 3) := by decide +kernel
theorem dX6_markAll_55 : decode cX6_markAll 55 = .ok (.iload_n 2, 1) := by decide +kernel
theorem dX6_markAll_56 : decode cX6_markAll 56 = .ok (.aload_n 0, 1) := by decide +kernel
theorem dX6_markAll_57 : decode cX6_markAll 57 = .ok (.getfield 31, 3) := by decide +kernel
theorem dX6_markAll_60 : decode cX6_markAll 60 = .ok (.iload_n 2, 1) := by decide +kernel
theorem dX6_markAll_61 : decode cX6_markAll 61 = .ok (.iaload, 1) := by decide +kernel
theorem dX6_markAll_62 : decode cX6_markAll 62 = .ok (.iastore, 1) := by decide +kernel
theorem dX6_markAll_63 : decode cX6_markAll 63 = .ok (.iinc 2 1, 3) := by decide +kernel
theorem dX6_markAll_66 : decode cX6_markAll 66 = .ok (.goto (-53), 3) := by decide +kernel
theorem dX6_markAll_69 : decode cX6_markAll 69 = .ok (.iload_n 1, 1) := by decide +kernel
theorem dX6_markAll_70 : decode cX6_markAll 70 = .ok (.ireturn, 1) := by decide +kernel
theorem dX6_edgeOf_0 : decode cX6_edgeOf 0 = .ok (.aload_n 0, 1) := by decide +kernel
theorem dX6_edgeOf_1 : decode cX6_edgeOf 1 = .ok (.aload_n 0, 1) := by decide +kernel
theorem dX6_edgeOf_2 : decode cX6_edgeOf 2 = .ok (.iload_n 1, 1) := by decide +kernel
theorem dX6_edgeOf_3 : decode cX6_edgeOf 3 = .ok (.invokevirtual 94, 3) := by decide +kernel
theorem dX6_edgeOf_6 : decode cX6_edgeOf 6 = .ok (.ifCond .eq 16, 3) := by decide +kernel
theorem dX6_edgeOf_9 : decode cX6_edgeOf 9 = .ok (.iload_n 2, 1) := by decide +kernel
theorem dX6_edgeOf_10 : decode cX6_edgeOf 10 = .ok (.ifCond .lt 12, 3) := by decide +kernel
theorem dX6_edgeOf_13 : decode cX6_edgeOf 13 = .ok (.iload_n 2, 1) := by decide +kernel
theorem dX6_edgeOf_14 : decode cX6_edgeOf 14 = .ok (.iconst 4, 1) := by decide +kernel
theorem dX6_edgeOf_15 : decode cX6_edgeOf 15 = .ok (.if_icmp .ge 7, 3) := by decide +kernel
theorem dX6_edgeOf_18 : decode cX6_edgeOf 18 = .ok (.iconst 1, 1) := by decide +kernel
theorem dX6_edgeOf_19 : decode cX6_edgeOf 19 = .ok (.goto 4, 3) := by decide +kernel
theorem dX6_edgeOf_22 : decode cX6_edgeOf 22 = .ok (.iconst 0, 1) := by decide +kernel
theorem dX6_edgeOf_23 : decode cX6_edgeOf 23 = .ok (.invokevirtual 90, 3) := by decide +kernel
theorem dX6_edgeOf_26 : decode cX6_edgeOf 26 = .ok (.ifCond .eq 16, 3) := by decide +kernel
theorem dX6_edgeOf_29 : decode cX6_edgeOf 29 = .ok (.aload_n 0, 1) := by decide +kernel
theorem dX6_edgeOf_30 : decode cX6_edgeOf 30 = .ok (.getfield 22, 3) := by decide +kernel
theorem dX6_edgeOf_33 : decode cX6_edgeOf 33 = .ok (.iconst 4, 1) := by decide +kernel
theorem dX6_edgeOf_34 : decode cX6_edgeOf 34 = .ok (.iload_n 1, 1) := by decide +kernel
theorem dX6_edgeOf_35 : decode cX6_edgeOf 35 = .ok (.imul, 1) := by decide +kernel
theorem dX6_edgeOf_36 : decode cX6_edgeOf 36 = .ok (.iload_n 2, 1) := by decide +kernel
theorem dX6_edgeOf_37 : decode cX6_edgeOf 37 = .ok (.iadd, 1) := by decide +kernel
theorem dX6_edgeOf_38 : decode cX6_edgeOf 38 = .ok (.iaload, 1) := by decide +kernel
theorem dX6_edgeOf_39 : decode cX6_edgeOf 39 = .ok (.goto 4, 3) := by decide +kernel
theorem dX6_edgeOf_42 : decode cX6_edgeOf 42 = .ok (.iconst 0, 1) := by decide +kernel
theorem dX6_edgeOf_43 : decode cX6_edgeOf 43 = .ok (.ireturn, 1) := by decide +kernel
theorem dX6_takeMarks_0 : decode cX6_takeMarks 0 = .ok (.iconst 0, 1) := by decide +kernel
theorem dX6_takeMarks_1 : decode cX6_takeMarks 1 = .ok (.istore_n 1, 1) := by decide +kernel
theorem dX6_takeMarks_2 : decode cX6_takeMarks 2 = .ok (.iload_n 1, 1) := by decide +kernel
theorem dX6_takeMarks_3 : decode cX6_takeMarks 3 = .ok (.aload_n 0, 1) := by decide +kernel
theorem dX6_takeMarks_4 : decode cX6_takeMarks 4 = .ok (.getfield 74, 3) := by decide +kernel
theorem dX6_takeMarks_7 : decode cX6_takeMarks 7 = .ok (.if_icmp .ge 21, 3) := by decide +kernel
theorem dX6_takeMarks_10 : decode cX6_takeMarks 10 = .ok (.aload_n 0, 1) := by decide +kernel
theorem dX6_takeMarks_11 : decode cX6_takeMarks 11 = .ok (.getfield 31, 3) := by decide +kernel
theorem dX6_takeMarks_14 : decode cX6_takeMarks 14 = .ok (.iload_n 1, 1) := by decide +kernel
theorem dX6_takeMarks_15 : decode cX6_takeMarks 15 = .ok (.aload_n 0, 1) := by decide +kernel
theorem dX6_takeMarks_16 : decode cX6_takeMarks 16 = .ok (.getfield 28, 3) := by decide +kernel
theorem dX6_takeMarks_19 : decode cX6_takeMarks 19 = .ok (.iload_n 1, 1) := by decide +kernel
theorem dX6_takeMarks_20 : decode cX6_takeMarks 20 = .ok (.iaload, 1) := by decide +kernel
theorem dX6_takeMarks_21 : decode cX6_takeMarks 21 = .ok (.iastore, 1) := by decide +kernel
theorem dX6_takeMarks_22 : decode cX6_takeMarks 22 = .ok (.iinc 1 1, 3) := by decide +kernel
theorem dX6_takeMarks_25 : decode cX6_takeMarks 25 = .ok (.goto (-23), 3) := by decide +kernel
theorem dX6_takeMarks_28 : decode cX6_takeMarks 28 = .ok (.return_, 1) := by decide +kernel
theorem dX6_around_0 : decode cX6_around 0 = .ok (.iconst 0, 1) := by decide +kernel
theorem dX6_around_1 : decode cX6_around 1 = .ok (.istore_n 3, 1) := by decide +kernel
theorem dX6_around_2 : decode cX6_around 2 = .ok (.iconst 0, 1) := by decide +kernel
theorem dX6_around_3 : decode cX6_around 3 = .ok (.istore 4, 2) := by decide +kernel
theorem dX6_around_5 : decode cX6_around 5 = .ok (.iload 4, 2) := by decide +kernel
theorem dX6_around_7 : decode cX6_around 7 = .ok (.iconst 4, 1) := by decide +kernel
theorem dX6_around_8 : decode cX6_around 8 = .ok (.if_icmp .ge 37, 3) := by decide +kernel
theorem dX6_around_11 : decode cX6_around 11 = .ok (.iload_n 3, 1) := by decide +kernel
theorem dX6_around_12 : decode cX6_around 12 = .ok (.aload_n 0, 1) := by decide +kernel
theorem dX6_around_13 : decode cX6_around 13 = .ok (.getfield 31, 3) := by decide +kernel
theorem dX6_around_16 : decode cX6_around 16 = .ok (.aload_n 0, 1) := by decide +kernel
theorem dX6_around_17 : decode cX6_around 17 = .ok (.getfield 22, 3) := by decide +kernel
theorem dX6_around_20 : decode cX6_around 20 = .ok (.iconst 4, 1) := by decide +kernel
theorem dX6_around_21 : decode cX6_around 21 = .ok (.iload_n 1, 1) := by decide +kernel
theorem dX6_around_22 : decode cX6_around 22 = .ok (.imul, 1) := by decide +kernel
theorem dX6_around_23 : decode cX6_around 23 = .ok (.iload 4, 2) := by decide +kernel
theorem dX6_around_25 : decode cX6_around 25 = .ok (.iadd, 1) := by decide +kernel
theorem dX6_around_26 : decode cX6_around 26 = .ok (.iaload, 1) := by decide +kernel
theorem dX6_around_27 : decode cX6_around 27 = .ok (.iaload, 1) := by decide +kernel
theorem dX6_around_28 : decode cX6_around 28 = .ok (.iload_n 2, 1) := by decide +kernel
theorem dX6_around_29 : decode cX6_around 29 = .ok (.if_icmp .ne 7, 3) := by decide +kernel
theorem dX6_around_32 : decode cX6_around 32 = .ok (.iconst 1, 1) := by decide +kernel
theorem dX6_around_33 : decode cX6_around 33 = .ok (.goto 4, 3) := by decide +kernel
theorem dX6_around_36 : decode cX6_around 36 = .ok (.iconst 0, 1) := by decide +kernel
theorem dX6_around_37 : decode cX6_around 37 = .ok (.iadd, 1) := by decide +kernel
theorem dX6_around_38 : decode cX6_around 38 = .ok (.istore_n 3, 1) := by decide +kernel
theorem dX6_around_39 : decode cX6_around 39 = .ok (.iinc 4 1, 3) := by decide +kernel
theorem dX6_around_42 : decode cX6_around 42 = .ok (.goto (-37), 3) := by decide +kernel
theorem dX6_around_45 : decode cX6_around 45 = .ok (.iload_n 3, 1) := by decide +kernel
theorem dX6_around_46 : decode cX6_around 46 = .ok (.ireturn, 1) := by decide +kernel
theorem dX6_at_0 : decode cX6_at 0 = .ok (.iconst 0, 1) := by decide +kernel
theorem dX6_at_1 : decode cX6_at 1 = .ok (.istore_n 3, 1) := by decide +kernel
theorem dX6_at_2 : decode cX6_at 2 = .ok (.iconst 0, 1) := by decide +kernel
theorem dX6_at_3 : decode cX6_at 3 = .ok (.istore 4, 2) := by decide +kernel
theorem dX6_at_5 : decode cX6_at 5 = .ok (.iload 4, 2) := by decide +kernel
theorem dX6_at_7 : decode cX6_at 7 = .ok (.aload_n 0, 1) := by decide +kernel
theorem dX6_at_8 : decode cX6_at 8 = .ok (.getfield 74, 3) := by decide +kernel
theorem dX6_at_11 : decode cX6_at 11 = .ok (.if_icmp .ge 50, 3) := by decide +kernel
theorem dX6_at_14 : decode cX6_at 14 = .ok (.iload_n 3, 1) := by decide +kernel
theorem dX6_at_15 : decode cX6_at 15 = .ok (.aload_n 0, 1) := by decide +kernel
theorem dX6_at_16 : decode cX6_at 16 = .ok (.getfield 7, 3) := by decide +kernel
theorem dX6_at_19 : decode cX6_at 19 = .ok (.iload 4, 2) := by decide +kernel
theorem dX6_at_21 : decode cX6_at 21 = .ok (.iaload, 1) := by decide +kernel
theorem dX6_at_22 : decode cX6_at 22 = .ok (.iload_n 1, 1) := by decide +kernel
theorem dX6_at_23 : decode cX6_at 23 = .ok (.if_icmp .eq 14, 3) := by decide +kernel
theorem dX6_at_26 : decode cX6_at 26 = .ok (.aload_n 0, 1) := by decide +kernel
theorem dX6_at_27 : decode cX6_at 27 = .ok (.getfield 13, 3) := by decide +kernel
theorem dX6_at_30 : decode cX6_at 30 = .ok (.iload 4, 2) := by decide +kernel
theorem dX6_at_32 : decode cX6_at 32 = .ok (.iaload, 1) := by decide +kernel
theorem dX6_at_33 : decode cX6_at 33 = .ok (.iload_n 1, 1) := by decide +kernel
theorem dX6_at_34 : decode cX6_at 34 = .ok (.if_icmp .ne 18, 3) := by decide +kernel
theorem dX6_at_37 : decode cX6_at 37 = .ok (.aload_n 0, 1) := by decide +kernel
theorem dX6_at_38 : decode cX6_at 38 = .ok (.getfield 31, 3) := by decide +kernel
theorem dX6_at_41 : decode cX6_at 41 = .ok (.iload 4, 2) := by decide +kernel
theorem dX6_at_43 : decode cX6_at 43 = .ok (.iaload, 1) := by decide +kernel
theorem dX6_at_44 : decode cX6_at 44 = .ok (.iload_n 2, 1) := by decide +kernel
theorem dX6_at_45 : decode cX6_at 45 = .ok (.if_icmp .ne 7, 3) := by decide +kernel
theorem dX6_at_48 : decode cX6_at 48 = .ok (.iconst 1, 1) := by decide +kernel
theorem dX6_at_49 : decode cX6_at 49 = .ok (.goto 4, 3) := by decide +kernel
theorem dX6_at_52 : decode cX6_at 52 = .ok (.iconst 0, 1) := by decide +kernel
theorem dX6_at_53 : decode cX6_at 53 = .ok (.iadd, 1) := by decide +kernel
theorem dX6_at_54 : decode cX6_at 54 = .ok (.istore_n 3, 1) := by decide +kernel
theorem dX6_at_55 : decode cX6_at 55 = .ok (.iinc 4 1, 3) := by decide +kernel
theorem dX6_at_58 : decode cX6_at 58 = .ok (.goto (-53), 3) := by decide +kernel
theorem dX6_at_61 : decode cX6_at 61 = .ok (.iload_n 3, 1) := by decide +kernel
theorem dX6_at_62 : decode cX6_at 62 = .ok (.ireturn, 1) := by decide +kernel
theorem dX6_count_0 : decode cX6_count 0 = .ok (.iconst 0, 1) := by decide +kernel
theorem dX6_count_1 : decode cX6_count 1 = .ok (.istore_n 2, 1) := by decide +kernel
theorem dX6_count_2 : decode cX6_count 2 = .ok (.iconst 0, 1) := by decide +kernel
theorem dX6_count_3 : decode cX6_count 3 = .ok (.istore_n 3, 1) := by decide +kernel
theorem dX6_count_4 : decode cX6_count 4 = .ok (.iload_n 3, 1) := by decide +kernel
theorem dX6_count_5 : decode cX6_count 5 = .ok (.aload_n 0, 1) := by decide +kernel
theorem dX6_count_6 : decode cX6_count 6 = .ok (.getfield 74, 3) := by decide +kernel
theorem dX6_count_9 : decode cX6_count 9 = .ok (.if_icmp .ge 27, 3) := by decide +kernel
theorem dX6_count_12 : decode cX6_count 12 = .ok (.iload_n 2, 1) := by decide +kernel
theorem dX6_count_13 : decode cX6_count 13 = .ok (.aload_n 0, 1) := by decide +kernel
theorem dX6_count_14 : decode cX6_count 14 = .ok (.getfield 31, 3) := by decide +kernel
theorem dX6_count_17 : decode cX6_count 17 = .ok (.iload_n 3, 1) := by decide +kernel
theorem dX6_count_18 : decode cX6_count 18 = .ok (.iaload, 1) := by decide +kernel
theorem dX6_count_19 : decode cX6_count 19 = .ok (.iload_n 1, 1) := by decide +kernel
theorem dX6_count_20 : decode cX6_count 20 = .ok (.if_icmp .ne 7, 3) := by decide +kernel
theorem dX6_count_23 : decode cX6_count 23 = .ok (.iconst 1, 1) := by decide +kernel
theorem dX6_count_24 : decode cX6_count 24 = .ok (.goto 4, 3) := by decide +kernel
theorem dX6_count_27 : decode cX6_count 27 = .ok (.iconst 0, 1) := by decide +kernel
theorem dX6_count_28 : decode cX6_count 28 = .ok (.iadd, 1) := by decide +kernel
theorem dX6_count_29 : decode cX6_count 29 = .ok (.istore_n 2, 1) := by decide +kernel
theorem dX6_count_30 : decode cX6_count 30 = .ok (.iinc 3 1, 3) := by decide +kernel
theorem dX6_count_33 : decode cX6_count 33 = .ok (.goto (-29), 3) := by decide +kernel
theorem dX6_count_36 : decode cX6_count 36 = .ok (.iload_n 2, 1) := by decide +kernel
theorem dX6_count_37 : decode cX6_count 37 = .ok (.ireturn, 1) := by decide +kernel
theorem dX6_areRight_0 : decode cX6_areRight 0 = .ok (.iconst 0, 1) := by decide +kernel
theorem dX6_areRight_1 : decode cX6_areRight 1 = .ok (.istore_n 1, 1) := by decide +kernel
theorem dX6_areRight_2 : decode cX6_areRight 2 = .ok (.iload_n 1, 1) := by decide +kernel
theorem dX6_areRight_3 : decode cX6_areRight 3 = .ok (.aload_n 0, 1) := by decide +kernel
theorem dX6_areRight_4 : decode cX6_areRight 4 = .ok (.getfield 71, 3) := by decide +kernel
theorem dX6_areRight_7 : decode cX6_areRight 7 = .ok (.if_icmp .ge 36, 3) := by decide +kernel
theorem dX6_areRight_10 : decode cX6_areRight 10 = .ok (.aload_n 0, 1) := by decide +kernel
theorem dX6_areRight_11 : decode cX6_areRight 11 = .ok (.getfield 25, 3) := by decide +kernel
theorem dX6_areRight_14 : decode cX6_areRight 14 = .ok (.iload_n 1, 1) := by decide +kernel
theorem dX6_areRight_15 : decode cX6_areRight 15 = .ok (.iaload, 1) := by decide +kernel
theorem dX6_areRight_16 : decode cX6_areRight 16 = .ok (.iconst (-1), 1) := by decide +kernel
theorem dX6_areRight_17 : decode cX6_areRight 17 = .ok (.if_icmp .eq 20, 3) := by decide +kernel
theorem dX6_areRight_20 : decode cX6_areRight 20 = .ok (.aload_n 0, 1) := by decide +kernel
theorem dX6_areRight_21 : decode cX6_areRight 21 = .ok (.iload_n 1, 1) := by decide +kernel
theorem dX6_areRight_22 : decode cX6_areRight 22 = .ok (.iconst 1, 1) := by decide +kernel
theorem dX6_areRight_23 : decode cX6_areRight 23 = .ok (.invokevirtual 111, 3) := by decide +kernel
theorem dX6_areRight_26 : decode cX6_areRight 26 = .ok (.aload_n 0, 1) := by decide +kernel
theorem dX6_areRight_27 : decode cX6_areRight 27 = .ok (.getfield 25, 3) := by decide +kernel
theorem dX6_areRight_30 : decode cX6_areRight 30 = .ok (.iload_n 1, 1) := by decide +kernel
theorem dX6_areRight_31 : decode cX6_areRight 31 = .ok (.iaload, 1) := by decide +kernel
theorem dX6_areRight_32 : decode cX6_areRight 32 = .ok (.if_icmp .eq 5, 3) := by decide +kernel
theorem dX6_areRight_35 : decode cX6_areRight 35 = .ok (.iconst 0, 1) := by decide +kernel
theorem dX6_areRight_36 : decode cX6_areRight 36 = .ok (.ireturn, 1) := by decide +kernel
theorem dX6_areRight_37 : decode cX6_areRight 37 = .ok (.iinc 1 1, 3) := by decide +kernel
theorem dX6_areRight_40 : decode cX6_areRight 40 = .ok (.goto (-38), 3) := by decide +kernel
theorem dX6_areRight_43 : decode cX6_areRight 43 = .ok (.iconst 1, 1) := by decide +kernel
theorem dX6_areRight_44 : decode cX6_areRight 44 = .ok (.ireturn, 1) := by decide +kernel
theorem dX6_labels_0 : decode cX6_labels 0 = .ok (.iconst 0, 1) := by decide +kernel
theorem dX6_labels_1 : decode cX6_labels 1 = .ok (.istore_n 1, 1) := by decide +kernel
theorem dX6_labels_2 : decode cX6_labels 2 = .ok (.iload_n 1, 1) := by decide +kernel
theorem dX6_labels_3 : decode cX6_labels 3 = .ok (.aload_n 0, 1) := by decide +kernel
theorem dX6_labels_4 : decode cX6_labels 4 = .ok (.getfield 83, 3) := by decide +kernel
theorem dX6_labels_7 : decode cX6_labels 7 = .ok (.if_icmp .ge 16, 3) := by decide +kernel
theorem dX6_labels_10 : decode cX6_labels 10 = .ok (.aload_n 0, 1) := by decide +kernel
theorem dX6_labels_11 : decode cX6_labels 11 = .ok (.getfield 46, 3) := by decide +kernel
theorem dX6_labels_14 : decode cX6_labels 14 = .ok (.iload_n 1, 1) := by decide +kernel
theorem dX6_labels_15 : decode cX6_labels 15 = .ok (.iload_n 1, 1) := by decide +kernel
theorem dX6_labels_16 : decode cX6_labels 16 = .ok (.iastore, 1) := by decide +kernel
theorem dX6_labels_17 : decode cX6_labels 17 = .ok (.iinc 1 1, 3) := by decide +kernel
theorem dX6_labels_20 : decode cX6_labels 20 = .ok (.goto (-18), 3) := by decide +kernel
theorem dX6_labels_23 : decode cX6_labels 23 = .ok (.iconst 0, 1) := by decide +kernel
theorem dX6_labels_24 : decode cX6_labels 24 = .ok (.istore_n 1, 1) := by decide +kernel
theorem dX6_labels_25 : decode cX6_labels 25 = .ok (.iload_n 1, 1) := by decide +kernel
theorem dX6_labels_26 : decode cX6_labels 26 = .ok (.aload_n 0, 1) := by decide +kernel
theorem dX6_labels_27 : decode cX6_labels 27 = .ok (.getfield 74, 3) := by decide +kernel
theorem dX6_labels_30 : decode cX6_labels 30 = .ok (.if_icmp .ge 193, 3) := by decide +kernel
theorem dX6_labels_33 : decode cX6_labels 33 = .ok (.aload_n 0, 1) := by decide +kernel
theorem dX6_labels_34 : decode cX6_labels 34 = .ok (.getfield 31, 3) := by decide +kernel
theorem dX6_labels_37 : decode cX6_labels 37 = .ok (.iload_n 1, 1) := by decide +kernel
theorem dX6_labels_38 : decode cX6_labels 38 = .ok (.iaload, 1) := by decide +kernel
theorem dX6_labels_39 : decode cX6_labels 39 = .ok (.iconst 1, 1) := by decide +kernel
theorem dX6_labels_40 : decode cX6_labels 40 = .ok (.if_icmp .ne 177, 3) := by decide +kernel
theorem dX6_labels_43 : decode cX6_labels 43 = .ok (.aload_n 0, 1) := by decide +kernel
theorem dX6_labels_44 : decode cX6_labels 44 = .ok (.getfield 46, 3) := by decide +kernel
theorem dX6_labels_47 : decode cX6_labels 47 = .ok (.aload_n 0, 1) := by decide +kernel
theorem dX6_labels_48 : decode cX6_labels 48 = .ok (.getfield 7, 3) := by decide +kernel
theorem dX6_labels_51 : decode cX6_labels 51 = .ok (.iload_n 1, 1) := by decide +kernel
theorem dX6_labels_52 : decode cX6_labels 52 = .ok (.iaload, 1) := by decide +kernel
theorem dX6_labels_53 : decode cX6_labels 53 = .ok (.iaload, 1) := by decide +kernel
theorem dX6_labels_54 : decode cX6_labels 54 = .ok (.aload_n 0, 1) := by decide +kernel
theorem dX6_labels_55 : decode cX6_labels 55 = .ok (.getfield 46, 3) := by decide +kernel
theorem dX6_labels_58 : decode cX6_labels 58 = .ok (.aload_n 0, 1) := by decide +kernel
theorem dX6_labels_59 : decode cX6_labels 59 = .ok (.getfield 13, 3) := by decide +kernel
theorem dX6_labels_62 : decode cX6_labels 62 = .ok (.iload_n 1, 1) := by decide +kernel
theorem dX6_labels_63 : decode cX6_labels 63 = .ok (.iaload, 1) := by decide +kernel
theorem dX6_labels_64 : decode cX6_labels 64 = .ok (.iaload, 1) := by decide +kernel
theorem dX6_labels_65 : decode cX6_labels 65 = .ok (.if_icmp .eq 152, 3) := by decide +kernel
theorem dX6_labels_68 : decode cX6_labels 68 = .ok (.aload_n 0, 1) := by decide +kernel
theorem dX6_labels_69 : decode cX6_labels 69 = .ok (.getfield 46, 3) := by decide +kernel
theorem dX6_labels_72 : decode cX6_labels 72 = .ok (.aload_n 0, 1) := by decide +kernel
theorem dX6_labels_73 : decode cX6_labels 73 = .ok (.getfield 7, 3) := by decide +kernel
theorem dX6_labels_76 : decode cX6_labels 76 = .ok (.iload_n 1, 1) := by decide +kernel
theorem dX6_labels_77 : decode cX6_labels 77 = .ok (.iaload, 1) := by decide +kernel
theorem dX6_labels_78 : decode cX6_labels 78 = .ok (.iaload, 1) := by decide +kernel
theorem dX6_labels_79 : decode cX6_labels 79 = .ok (.aload_n 0, 1) := by decide +kernel
theorem dX6_labels_80 : decode cX6_labels 80 = .ok (.getfield 46, 3) := by decide +kernel
theorem dX6_labels_83 : decode cX6_labels 83 = .ok (.aload_n 0, 1) := by decide +kernel
theorem dX6_labels_84 : decode cX6_labels 84 = .ok (.getfield 13, 3) := by decide +kernel
theorem dX6_labels_87 : decode cX6_labels 87 = .ok (.iload_n 1, 1) := by decide +kernel
theorem dX6_labels_88 : decode cX6_labels 88 = .ok (.iaload, 1) := by decide +kernel
theorem dX6_labels_89 : decode cX6_labels 89 = .ok (.iaload, 1) := by decide +kernel
theorem dX6_labels_90 : decode cX6_labels 90 = .ok (.if_icmp .ge 17, 3) := by decide +kernel
theorem dX6_labels_93 : decode cX6_labels 93 = .ok (.aload_n 0, 1) := by decide +kernel
theorem dX6_labels_94 : decode cX6_labels 94 = .ok (.getfield 46, 3) := by decide +kernel
theorem dX6_labels_97 : decode cX6_labels 97 = .ok (.aload_n 0, 1) := by decide +kernel
theorem dX6_labels_98 : decode cX6_labels 98 = .ok (.getfield 7, 3) := by decide +kernel
theorem dX6_labels_101 : decode cX6_labels 101 = .ok (.iload_n 1, 1) := by decide +kernel
theorem dX6_labels_102 : decode cX6_labels 102 = .ok (.iaload, 1) := by decide +kernel
theorem dX6_labels_103 : decode cX6_labels 103 = .ok (.iaload, 1) := by decide +kernel
theorem dX6_labels_104 : decode cX6_labels 104 = .ok (.goto 14, 3) := by decide +kernel
theorem dX6_labels_107 : decode cX6_labels 107 = .ok (.aload_n 0, 1) := by decide +kernel
theorem dX6_labels_108 : decode cX6_labels 108 = .ok (.getfield 46, 3) := by decide +kernel
theorem dX6_labels_111 : decode cX6_labels 111 = .ok (.aload_n 0, 1) := by decide +kernel
theorem dX6_labels_112 : decode cX6_labels 112 = .ok (.getfield 13, 3) := by decide +kernel
theorem dX6_labels_115 : decode cX6_labels 115 = .ok (.iload_n 1, 1) := by decide +kernel
theorem dX6_labels_116 : decode cX6_labels 116 = .ok (.iaload, 1) := by decide +kernel
theorem dX6_labels_117 : decode cX6_labels 117 = .ok (.iaload, 1) := by decide +kernel
theorem dX6_labels_118 : decode cX6_labels 118 = .ok (.istore_n 2, 1) := by decide +kernel
theorem dX6_labels_119 : decode cX6_labels 119 = .ok (.aload_n 0, 1) := by decide +kernel
theorem dX6_labels_120 : decode cX6_labels 120 = .ok (.getfield 46, 3) := by decide +kernel
theorem dX6_labels_123 : decode cX6_labels 123 = .ok (.aload_n 0, 1) := by decide +kernel
theorem dX6_labels_124 : decode cX6_labels 124 = .ok (.getfield 7, 3) := by decide +kernel
theorem dX6_labels_127 : decode cX6_labels 127 = .ok (.iload_n 1, 1) := by decide +kernel
theorem dX6_labels_128 : decode cX6_labels 128 = .ok (.iaload, 1) := by decide +kernel
theorem dX6_labels_129 : decode cX6_labels 129 = .ok (.iaload, 1) := by decide +kernel
theorem dX6_labels_130 : decode cX6_labels 130 = .ok (.aload_n 0, 1) := by decide +kernel
theorem dX6_labels_131 : decode cX6_labels 131 = .ok (.getfield 46, 3) := by decide +kernel
theorem dX6_labels_134 : decode cX6_labels 134 = .ok (.aload_n 0, 1) := by decide +kernel
theorem dX6_labels_135 : decode cX6_labels 135 = .ok (.getfield 13, 3) := by decide +kernel
theorem dX6_labels_138 : decode cX6_labels 138 = .ok (.iload_n 1, 1) := by decide +kernel
theorem dX6_labels_139 : decode cX6_labels 139 = .ok (.iaload, 1) := by decide +kernel
theorem dX6_labels_140 : decode cX6_labels 140 = .ok (.iaload, 1) := by decide +kernel
theorem dX6_labels_141 : decode cX6_labels 141 = .ok (.if_icmp .ge 17, 3) := by decide +kernel
theorem dX6_labels_144 : decode cX6_labels 144 = .ok (.aload_n 0, 1) := by decide +kernel
theorem dX6_labels_145 : decode cX6_labels 145 = .ok (.getfield 46, 3) := by decide +kernel
theorem dX6_labels_148 : decode cX6_labels 148 = .ok (.aload_n 0, 1) := by decide +kernel
theorem dX6_labels_149 : decode cX6_labels 149 = .ok (.getfield 13, 3) := by decide +kernel
theorem dX6_labels_152 : decode cX6_labels 152 = .ok (.iload_n 1, 1) := by decide +kernel
theorem dX6_labels_153 : decode cX6_labels 153 = .ok (.iaload, 1) := by decide +kernel
theorem dX6_labels_154 : decode cX6_labels 154 = .ok (.iaload, 1) := by decide +kernel
theorem dX6_labels_155 : decode cX6_labels 155 = .ok (.goto 14, 3) := by decide +kernel
theorem dX6_labels_158 : decode cX6_labels 158 = .ok (.aload_n 0, 1) := by decide +kernel
theorem dX6_labels_159 : decode cX6_labels 159 = .ok (.getfield 46, 3) := by decide +kernel
theorem dX6_labels_162 : decode cX6_labels 162 = .ok (.aload_n 0, 1) := by decide +kernel
theorem dX6_labels_163 : decode cX6_labels 163 = .ok (.getfield 7, 3) := by decide +kernel
theorem dX6_labels_166 : decode cX6_labels 166 = .ok (.iload_n 1, 1) := by decide +kernel
theorem dX6_labels_167 : decode cX6_labels 167 = .ok (.iaload, 1) := by decide +kernel
theorem dX6_labels_168 : decode cX6_labels 168 = .ok (.iaload, 1) := by decide +kernel
theorem dX6_labels_169 : decode cX6_labels 169 = .ok (.istore_n 3, 1) := by decide +kernel
theorem dX6_labels_170 : decode cX6_labels 170 = .ok (.iconst 0, 1) := by decide +kernel
theorem dX6_labels_171 : decode cX6_labels 171 = .ok (.istore 4, 2) := by decide +kernel
theorem dX6_labels_173 : decode cX6_labels 173 = .ok (.iload 4, 2) := by decide +kernel
theorem dX6_labels_175 : decode cX6_labels 175 = .ok (.aload_n 0, 1) := by decide +kernel
theorem dX6_labels_176 : decode cX6_labels 176 = .ok (.getfield 83, 3) := by decide +kernel
theorem dX6_labels_179 : decode cX6_labels 179 = .ok (.if_icmp .ge 38, 3) := by decide +kernel
theorem dX6_labels_182 : decode cX6_labels 182 = .ok (.aload_n 0, 1) := by decide +kernel
theorem dX6_labels_183 : decode cX6_labels 183 = .ok (.getfield 46, 3) := by decide +kernel
theorem dX6_labels_186 : decode cX6_labels 186 = .ok (.iload 4, 2) := by decide +kernel
theorem dX6_labels_188 : decode cX6_labels 188 = .ok (.aload_n 0, 1) := by decide +kernel
theorem dX6_labels_189 : decode cX6_labels 189 = .ok (.getfield 46, 3) := by decide +kernel
theorem dX6_labels_192 : decode cX6_labels 192 = .ok (.iload 4, 2) := by decide +kernel
theorem dX6_labels_194 : decode cX6_labels 194 = .ok (.iaload, 1) := by decide +kernel
theorem dX6_labels_195 : decode cX6_labels 195 = .ok (.iload_n 3, 1) := by decide +kernel
theorem dX6_labels_196 : decode cX6_labels 196 = .ok (.if_icmp .ne 7, 3) := by decide +kernel
theorem dX6_labels_199 : decode cX6_labels 199 = .ok (.iload_n 2, 1) := by decide +kernel
theorem dX6_labels_200 : decode cX6_labels 200 = .ok (.goto 10, 3) := by decide +kernel
theorem dX6_labels_203 : decode cX6_labels 203 = .ok (.aload_n 0, 1) := by decide +kernel
theorem dX6_labels_204 : decode cX6_labels 204 = .ok (.getfield 46, 3) := by decide +kernel
theorem dX6_labels_207 : decode cX6_labels 207 = .ok (.iload 4, 2) := by decide +kernel
theorem dX6_labels_209 : decode cX6_labels 209 = .ok (.iaload, 1) := by decide +kernel
theorem dX6_labels_210 : decode cX6_labels 210 = .ok (.iastore, 1) := by decide +kernel
theorem dX6_labels_211 : decode cX6_labels 211 = .ok (.iinc 4 1, 3) := by decide +kernel
theorem dX6_labels_214 : decode cX6_labels 214 = .ok (.goto (-41), 3) := by decide +kernel
theorem dX6_labels_217 : decode cX6_labels 217 = .ok (.iinc 1 1, 3) := by decide +kernel
theorem dX6_labels_220 : decode cX6_labels 220 = .ok (.goto (-195), 3) := by decide +kernel
theorem dX6_labels_223 : decode cX6_labels 223 = .ok (.return_, 1) := by decide +kernel
theorem dX6_waysOf_0 : decode cX6_waysOf 0 = .ok (.iconst 0, 1) := by decide +kernel
theorem dX6_waysOf_1 : decode cX6_waysOf 1 = .ok (.istore_n 1, 1) := by decide +kernel
theorem dX6_waysOf_2 : decode cX6_waysOf 2 = .ok (.iconst 0, 1) := by decide +kernel
theorem dX6_waysOf_3 : decode cX6_waysOf 3 = .ok (.istore_n 2, 1) := by decide +kernel
theorem dX6_waysOf_4 : decode cX6_waysOf 4 = .ok (.iload_n 2, 1) := by decide +kernel
theorem dX6_waysOf_5 : decode cX6_waysOf 5 = .ok (.aload_n 0, 1) := by decide +kernel
theorem dX6_waysOf_6 : decode cX6_waysOf 6 = .ok (.getfield 83, 3) := by decide +kernel
theorem dX6_waysOf_9 : decode cX6_waysOf 9 = .ok (.if_icmp .ge 36, 3) := by decide +kernel
theorem dX6_waysOf_12 : decode cX6_waysOf 12 = .ok (.iload_n 1, 1) := by decide +kernel
theorem dX6_waysOf_13 : decode cX6_waysOf 13 = .ok (.aload_n 0, 1) := by decide +kernel
theorem dX6_waysOf_14 : decode cX6_waysOf 14 = .ok (.getfield 46, 3) := by decide +kernel
theorem dX6_waysOf_17 : decode cX6_waysOf 17 = .ok (.iload_n 2, 1) := by decide +kernel
theorem dX6_waysOf_18 : decode cX6_waysOf 18 = .ok (.iaload, 1) := by decide +kernel
theorem dX6_waysOf_19 : decode cX6_waysOf 19 = .ok (.iload_n 2, 1) := by decide +kernel
theorem dX6_waysOf_20 : decode cX6_waysOf 20 = .ok (.if_icmp .ne 16, 3) := by decide +kernel
theorem dX6_waysOf_23 : decode cX6_waysOf 23 = .ok (.aload_n 0, 1) := by decide +kernel
theorem dX6_waysOf_24 : decode cX6_waysOf 24 = .ok (.iload_n 2, 1) := by decide +kernel
theorem dX6_waysOf_25 : decode cX6_waysOf 25 = .ok (.iconst 1, 1) := by decide +kernel
theorem dX6_waysOf_26 : decode cX6_waysOf 26 = .ok (.invokevirtual 114, 3) := by decide +kernel
theorem dX6_waysOf_29 : decode cX6_waysOf 29 = .ok (.ifCond .le 7, 3) := by decide +kernel
theorem dX6_waysOf_32 : decode cX6_waysOf 32 = .ok (.iconst 1, 1) := by decide +kernel
theorem dX6_waysOf_33 : decode cX6_waysOf 33 = .ok (.goto 4, 3) := by decide +kernel
theorem dX6_waysOf_36 : decode cX6_waysOf 36 = .ok (.iconst 0, 1) := by decide +kernel
theorem dX6_waysOf_37 : decode cX6_waysOf 37 = .ok (.iadd, 1) := by decide +kernel
theorem dX6_waysOf_38 : decode cX6_waysOf 38 = .ok (.istore_n 1, 1) := by decide +kernel
theorem dX6_waysOf_39 : decode cX6_waysOf 39 = .ok (.iinc 2 1, 3) := by decide +kernel
theorem dX6_waysOf_42 : decode cX6_waysOf 42 = .ok (.goto (-38), 3) := by decide +kernel
theorem dX6_waysOf_45 : decode cX6_waysOf 45 = .ok (.iload_n 1, 1) := by decide +kernel
theorem dX6_waysOf_46 : decode cX6_waysOf 46 = .ok (.ireturn, 1) := by decide +kernel
theorem dX6_isLoop_0 : decode cX6_isLoop 0 = .ok (.iconst 0, 1) := by decide +kernel
theorem dX6_isLoop_1 : decode cX6_isLoop 1 = .ok (.istore_n 1, 1) := by decide +kernel
theorem dX6_isLoop_2 : decode cX6_isLoop 2 = .ok (.iload_n 1, 1) := by decide +kernel
theorem dX6_isLoop_3 : decode cX6_isLoop 3 = .ok (.aload_n 0, 1) := by decide +kernel
theorem dX6_isLoop_4 : decode cX6_isLoop 4 = .ok (.getfield 83, 3) := by decide +kernel
theorem dX6_isLoop_7 : decode cX6_isLoop 7 = .ok (.if_icmp .ge 27, 3) := by decide +kernel
theorem dX6_isLoop_10 : decode cX6_isLoop 10 = .ok (.aload_n 0, 1) := by decide +kernel
theorem dX6_isLoop_11 : decode cX6_isLoop 11 = .ok (.iload_n 1, 1) := by decide +kernel
theorem dX6_isLoop_12 : decode cX6_isLoop 12 = .ok (.iconst 1, 1) := by decide +kernel
theorem dX6_isLoop_13 : decode cX6_isLoop 13 = .ok (.invokevirtual 114, 3) := by decide +kernel
theorem dX6_isLoop_16 : decode cX6_isLoop 16 = .ok (.istore_n 2, 1) := by decide +kernel
theorem dX6_isLoop_17 : decode cX6_isLoop 17 = .ok (.iload_n 2, 1) := by decide +kernel
theorem dX6_isLoop_18 : decode cX6_isLoop 18 = .ok (.ifCond .eq 10, 3) := by decide +kernel
theorem dX6_isLoop_21 : decode cX6_isLoop 21 = .ok (.iload_n 2, 1) := by decide +kernel
theorem dX6_isLoop_22 : decode cX6_isLoop 22 = .ok (.iconst 2, 1) := by decide +kernel
theorem dX6_isLoop_23 : decode cX6_isLoop 23 = .ok (.if_icmp .eq 5, 3) := by decide +kernel
theorem dX6_isLoop_26 : decode cX6_isLoop 26 = .ok (.iconst 0, 1) := by decide +kernel
theorem dX6_isLoop_27 : decode cX6_isLoop 27 = .ok (.ireturn, 1) := by decide +kernel
theorem dX6_isLoop_28 : decode cX6_isLoop 28 = .ok (.iinc 1 1, 3) := by decide +kernel
theorem dX6_isLoop_31 : decode cX6_isLoop 31 = .ok (.goto (-29), 3) := by decide +kernel
theorem dX6_isLoop_34 : decode cX6_isLoop 34 = .ok (.aload_n 0, 1) := by decide +kernel
theorem dX6_isLoop_35 : decode cX6_isLoop 35 = .ok (.invokevirtual 117, 3) := by decide +kernel
theorem dX6_isLoop_38 : decode cX6_isLoop 38 = .ok (.iconst 1, 1) := by decide +kernel
theorem dX6_isLoop_39 : decode cX6_isLoop 39 = .ok (.if_icmp .ne 7, 3) := by decide +kernel
theorem dX6_isLoop_42 : decode cX6_isLoop 42 = .ok (.iconst 1, 1) := by decide +kernel
theorem dX6_isLoop_43 : decode cX6_isLoop 43 = .ok (.goto 4, 3) := by decide +kernel
theorem dX6_isLoop_46 : decode cX6_isLoop 46 = .ok (.iconst 0, 1) := by decide +kernel
theorem dX6_isLoop_47 : decode cX6_isLoop 47 = .ok (.ireturn, 1) := by decide +kernel
theorem dX6_hasLoop_0 : decode cX6_hasLoop 0 = .ok (.iconst 0, 1) := by decide +kernel
theorem dX6_hasLoop_1 : decode cX6_hasLoop 1 = .ok (.istore_n 1, 1) := by decide +kernel
theorem dX6_hasLoop_2 : decode cX6_hasLoop 2 = .ok (.iload_n 1, 1) := by decide +kernel
theorem dX6_hasLoop_3 : decode cX6_hasLoop 3 = .ok (.aload_n 0, 1) := by decide +kernel
theorem dX6_hasLoop_4 : decode cX6_hasLoop 4 = .ok (.getfield 83, 3) := by decide +kernel
theorem dX6_hasLoop_7 : decode cX6_hasLoop 7 = .ok (.if_icmp .ge 86, 3) := by decide +kernel
theorem dX6_hasLoop_10 : decode cX6_hasLoop 10 = .ok (.aload_n 0, 1) := by decide +kernel
theorem dX6_hasLoop_11 : decode cX6_hasLoop 11 = .ok (.getfield 46, 3) := by decide +kernel
theorem dX6_hasLoop_14 : decode cX6_hasLoop 14 = .ok (.iload_n 1, 1) := by decide +kernel
theorem dX6_hasLoop_15 : decode cX6_hasLoop 15 = .ok (.iaload, 1) := by decide +kernel
theorem dX6_hasLoop_16 : decode cX6_hasLoop 16 = .ok (.iload_n 1, 1) := by decide +kernel
theorem dX6_hasLoop_17 : decode cX6_hasLoop 17 = .ok (.if_icmp .ne 16, 3) := by decide +kernel
theorem dX6_hasLoop_20 : decode cX6_hasLoop 20 = .ok (.aload_n 0, 1) := by decide +kernel
theorem dX6_hasLoop_21 : decode cX6_hasLoop 21 = .ok (.iload_n 1, 1) := by decide +kernel
theorem dX6_hasLoop_22 : decode cX6_hasLoop 22 = .ok (.iconst 1, 1) := by decide +kernel
theorem dX6_hasLoop_23 : decode cX6_hasLoop 23 = .ok (.invokevirtual 114, 3) := by decide +kernel
theorem dX6_hasLoop_26 : decode cX6_hasLoop 26 = .ok (.ifCond .le 7, 3) := by decide +kernel
theorem dX6_hasLoop_29 : decode cX6_hasLoop 29 = .ok (.iconst 1, 1) := by decide +kernel
theorem dX6_hasLoop_30 : decode cX6_hasLoop 30 = .ok (.goto 4, 3) := by decide +kernel
theorem dX6_hasLoop_33 : decode cX6_hasLoop 33 = .ok (.iconst 0, 1) := by decide +kernel
theorem dX6_hasLoop_34 : decode cX6_hasLoop 34 = .ok (.istore_n 2, 1) := by decide +kernel
theorem dX6_hasLoop_35 : decode cX6_hasLoop 35 = .ok (.iconst 0, 1) := by decide +kernel
theorem dX6_hasLoop_36 : decode cX6_hasLoop 36 = .ok (.istore_n 3, 1) := by decide +kernel
theorem dX6_hasLoop_37 : decode cX6_hasLoop 37 = .ok (.iload_n 3, 1) := by decide +kernel
theorem dX6_hasLoop_38 : decode cX6_hasLoop 38 = .ok (.aload_n 0, 1) := by decide +kernel
theorem dX6_hasLoop_39 : decode cX6_hasLoop 39 = .ok (.getfield 83, 3) := by decide +kernel
theorem dX6_hasLoop_42 : decode cX6_hasLoop 42 = .ok (.if_icmp .ge 39, 3) := by decide +kernel
theorem dX6_hasLoop_45 : decode cX6_hasLoop 45 = .ok (.iload_n 2, 1) := by decide +kernel
theorem dX6_hasLoop_46 : decode cX6_hasLoop 46 = .ok (.ifCond .eq 35, 3) := by decide +kernel
theorem dX6_hasLoop_49 : decode cX6_hasLoop 49 = .ok (.aload_n 0, 1) := by decide +kernel
theorem dX6_hasLoop_50 : decode cX6_hasLoop 50 = .ok (.getfield 46, 3) := by decide +kernel
theorem dX6_hasLoop_53 : decode cX6_hasLoop 53 = .ok (.iload_n 3, 1) := by decide +kernel
theorem dX6_hasLoop_54 : decode cX6_hasLoop 54 = .ok (.iaload, 1) := by decide +kernel
theorem dX6_hasLoop_55 : decode cX6_hasLoop 55 = .ok (.iload_n 1, 1) := by decide +kernel
theorem dX6_hasLoop_56 : decode cX6_hasLoop 56 = .ok (.if_icmp .ne 13, 3) := by decide +kernel
theorem dX6_hasLoop_59 : decode cX6_hasLoop 59 = .ok (.aload_n 0, 1) := by decide +kernel
theorem dX6_hasLoop_60 : decode cX6_hasLoop 60 = .ok (.iload_n 3, 1) := by decide +kernel
theorem dX6_hasLoop_61 : decode cX6_hasLoop 61 = .ok (.iconst 1, 1) := by decide +kernel
theorem dX6_hasLoop_62 : decode cX6_hasLoop 62 = .ok (.invokevirtual 114, 3) := by decide +kernel
theorem dX6_hasLoop_65 : decode cX6_hasLoop 65 = .ok (.iconst 2, 1) := by decide +kernel
theorem dX6_hasLoop_66 : decode cX6_hasLoop 66 = .ok (.if_icmp .ne 7, 3) := by decide +kernel
theorem dX6_hasLoop_69 : decode cX6_hasLoop 69 = .ok (.iconst 1, 1) := by decide +kernel
theorem dX6_hasLoop_70 : decode cX6_hasLoop 70 = .ok (.goto 4, 3) := by decide +kernel
theorem dX6_hasLoop_73 : decode cX6_hasLoop 73 = .ok (.iconst 0, 1) := by decide +kernel
theorem dX6_hasLoop_74 : decode cX6_hasLoop 74 = .ok (.istore_n 2, 1) := by decide +kernel
theorem dX6_hasLoop_75 : decode cX6_hasLoop 75 = .ok (.iinc 3 1, 3) := by decide +kernel
theorem dX6_hasLoop_78 : decode cX6_hasLoop 78 = .ok (.goto (-41), 3) := by decide +kernel
theorem dX6_hasLoop_81 : decode cX6_hasLoop 81 = .ok (.iload_n 2, 1) := by decide +kernel
theorem dX6_hasLoop_82 : decode cX6_hasLoop 82 = .ok (.ifCond .eq 5, 3) := by decide +kernel
theorem dX6_hasLoop_85 : decode cX6_hasLoop 85 = .ok (.iconst 1, 1) := by decide +kernel
theorem dX6_hasLoop_86 : decode cX6_hasLoop 86 = .ok (.ireturn, 1) := by decide +kernel
theorem dX6_hasLoop_87 : decode cX6_hasLoop 87 = .ok (.iinc 1 1, 3) := by decide +kernel
theorem dX6_hasLoop_90 : decode cX6_hasLoop 90 = .ok (.goto (-88), 3) := by decide +kernel
theorem dX6_hasLoop_93 : decode cX6_hasLoop 93 = .ok (.iconst 0, 1) := by decide +kernel
theorem dX6_hasLoop_94 : decode cX6_hasLoop 94 = .ok (.ireturn, 1) := by decide +kernel
theorem dX6_chains_0 : decode cX6_chains 0 = .ok (.iconst 0, 1) := by decide +kernel
theorem dX6_chains_1 : decode cX6_chains 1 = .ok (.istore_n 1, 1) := by decide +kernel
theorem dX6_chains_2 : decode cX6_chains 2 = .ok (.iload_n 1, 1) := by decide +kernel
theorem dX6_chains_3 : decode cX6_chains 3 = .ok (.aload_n 0, 1) := by decide +kernel
theorem dX6_chains_4 : decode cX6_chains 4 = .ok (.getfield 71, 3) := by decide +kernel
theorem dX6_chains_7 : decode cX6_chains 7 = .ok (.if_icmp .gt 23, 3) := by decide +kernel
theorem dX6_chains_10 : decode cX6_chains 10 = .ok (.aload_n 0, 1) := by decide +kernel
theorem dX6_chains_11 : decode cX6_chains 11 = .ok (.getfield 49, 3) := by decide +kernel
theorem dX6_chains_14 : decode cX6_chains 14 = .ok (.iload_n 1, 1) := by decide +kernel
theorem dX6_chains_15 : decode cX6_chains 15 = .ok (.iload_n 1, 1) := by decide +kernel
theorem dX6_chains_16 : decode cX6_chains 16 = .ok (.iastore, 1) := by decide +kernel
theorem dX6_chains_17 : decode cX6_chains 17 = .ok (.aload_n 0, 1) := by decide +kernel
theorem dX6_chains_18 : decode cX6_chains 18 = .ok (.getfield 52, 3) := by decide +kernel
theorem dX6_chains_21 : decode cX6_chains 21 = .ok (.iload_n 1, 1) := by decide +kernel
theorem dX6_chains_22 : decode cX6_chains 22 = .ok (.iconst 0, 1) := by decide +kernel
theorem dX6_chains_23 : decode cX6_chains 23 = .ok (.bastore, 1) := by decide +kernel
theorem dX6_chains_24 : decode cX6_chains 24 = .ok (.iinc 1 1, 3) := by decide +kernel
theorem dX6_chains_27 : decode cX6_chains 27 = .ok (.goto (-25), 3) := by decide +kernel
theorem dX6_chains_30 : decode cX6_chains 30 = .ok (.iconst 1, 1) := by decide +kernel
theorem dX6_chains_31 : decode cX6_chains 31 = .ok (.istore_n 1, 1) := by decide +kernel
theorem dX6_chains_32 : decode cX6_chains 32 = .ok (.iconst 0, 1) := by decide +kernel
theorem dX6_chains_33 : decode cX6_chains 33 = .ok (.istore_n 2, 1) := by decide +kernel
theorem dX6_chains_34 : decode cX6_chains 34 = .ok (.iload_n 2, 1) := by decide +kernel
theorem dX6_chains_35 : decode cX6_chains 35 = .ok (.aload_n 0, 1) := by decide +kernel
theorem dX6_chains_36 : decode cX6_chains 36 = .ok (.getfield 74, 3) := by decide +kernel
theorem dX6_chains_39 : decode cX6_chains 39 = .ok (.if_icmp .ge 214, 3) := by decide +kernel
theorem dX6_chains_42 : decode cX6_chains 42 = .ok (.aload_n 0, 1) := by decide +kernel
theorem dX6_chains_43 : decode cX6_chains 43 = .ok (.getfield 31, 3) := by decide +kernel
theorem dX6_chains_46 : decode cX6_chains 46 = .ok (.iload_n 2, 1) := by decide +kernel
theorem dX6_chains_47 : decode cX6_chains 47 = .ok (.iaload, 1) := by decide +kernel
theorem dX6_chains_48 : decode cX6_chains 48 = .ok (.ifCond .eq 199, 3) := by decide +kernel
theorem dX6_chains_51 : decode cX6_chains 51 = .ok (.aload_n 0, 1) := by decide +kernel
theorem dX6_chains_52 : decode cX6_chains 52 = .ok (.getfield 16, 3) := by decide +kernel
theorem dX6_chains_55 : decode cX6_chains 55 = .ok (.iload_n 2, 1) := by decide +kernel
theorem dX6_chains_56 : decode cX6_chains 56 = .ok (.iaload, 1) := by decide +kernel
theorem dX6_chains_57 : decode cX6_chains 57 = .ok (.istore_n 3, 1) := by decide +kernel
theorem dX6_chains_58 : decode cX6_chains 58 = .ok (.aload_n 0, 1) := by decide +kernel
theorem dX6_chains_59 : decode cX6_chains 59 = .ok (.getfield 19, 3) := by decide +kernel
theorem dX6_chains_62 : decode cX6_chains 62 = .ok (.iload_n 2, 1) := by decide +kernel
theorem dX6_chains_63 : decode cX6_chains 63 = .ok (.iaload, 1) := by decide +kernel
theorem dX6_chains_64 : decode cX6_chains 64 = .ok (.istore 4, 2) := by decide +kernel
theorem dX6_chains_66 : decode cX6_chains 66 = .ok (.aload_n 0, 1) := by decide +kernel
theorem dX6_chains_67 : decode cX6_chains 67 = .ok (.getfield 31, 3) := by decide +kernel
theorem dX6_chains_70 : decode cX6_chains 70 = .ok (.iload_n 2, 1) := by decide +kernel
theorem dX6_chains_71 : decode cX6_chains 71 = .ok (.iaload, 1) := by decide +kernel
theorem dX6_chains_72 : decode cX6_chains 72 = .ok (.iconst 1, 1) := by decide +kernel
theorem dX6_chains_73 : decode cX6_chains 73 = .ok (.if_icmp .ne 7, 3) := by decide +kernel
theorem dX6_chains_76 : decode cX6_chains 76 = .ok (.iconst 1, 1) := by decide +kernel
theorem dX6_chains_77 : decode cX6_chains 77 = .ok (.goto 4, 3) := by decide +kernel
theorem dX6_chains_80 : decode cX6_chains 80 = .ok (.iconst 0, 1) := by decide +kernel
theorem dX6_chains_81 : decode cX6_chains 81 = .ok (.istore 5, 2) := by decide +kernel
theorem dX6_chains_83 : decode cX6_chains 83 = .ok (.aload_n 0, 1) := by decide +kernel
theorem dX6_chains_84 : decode cX6_chains 84 = .ok (.getfield 49, 3) := by decide +kernel
theorem dX6_chains_87 : decode cX6_chains 87 = .ok (.iload_n 3, 1) := by decide +kernel
theorem dX6_chains_88 : decode cX6_chains 88 = .ok (.iaload, 1) := by decide +kernel
theorem dX6_chains_89 : decode cX6_chains 89 = .ok (.aload_n 0, 1) := by decide +kernel
theorem dX6_chains_90 : decode cX6_chains 90 = .ok (.getfield 49, 3) := by decide +kernel
theorem dX6_chains_93 : decode cX6_chains 93 = .ok (.iload 4, 2) := by decide +kernel
theorem dX6_chains_95 : decode cX6_chains 95 = .ok (.iaload, 1) := by decide +kernel
theorem dX6_chains_96 : decode cX6_chains 96 = .ok (.if_icmp .ne 42, 3) := by decide +kernel
theorem dX6_chains_99 : decode cX6_chains 99 = .ok (.iload_n 1, 1) := by decide +kernel
theorem dX6_chains_100 : decode cX6_chains 100 = .ok (.ifCond .eq 33, 3) := by decide +kernel
theorem dX6_chains_103 : decode cX6_chains 103 = .ok (.aload_n 0, 1) := by decide +kernel
theorem dX6_chains_104 : decode cX6_chains 104 = .ok (.getfield 52, 3) := by decide +kernel
theorem dX6_chains_107 : decode cX6_chains 107 = .ok (.iload_n 3, 1) := by decide +kernel
theorem dX6_chains_108 : decode cX6_chains 108 = .ok (.baload, 1) := by decide +kernel
theorem dX6_chains_109 : decode cX6_chains 109 = .ok (.aload_n 0, 1) := by decide +kernel
theorem dX6_chains_110 : decode cX6_chains 110 = .ok (.getfield 52, 3) := by decide +kernel
theorem dX6_chains_113 : decode cX6_chains 113 = .ok (.iload 4, 2) := by decide +kernel
theorem dX6_chains_115 : decode cX6_chains 115 = .ok (.baload, 1) := by decide +kernel
theorem dX6_chains_116 : decode cX6_chains 116 = .ok (.if_icmp .eq 7, 3) := by decide +kernel
theorem dX6_chains_119 : decode cX6_chains 119 = .ok (.iconst 1, 1) := by decide +kernel
theorem dX6_chains_120 : decode cX6_chains 120 = .ok (.goto 4, 3) := by decide +kernel
theorem dX6_chains_123 : decode cX6_chains 123 = .ok (.iconst 0, 1) := by decide +kernel
theorem dX6_chains_124 : decode cX6_chains 124 = .ok (.iload 5, 2) := by decide +kernel
theorem dX6_chains_126 : decode cX6_chains 126 = .ok (.if_icmp .ne 7, 3) := by decide +kernel
theorem dX6_chains_129 : decode cX6_chains 129 = .ok (.iconst 1, 1) := by decide +kernel
theorem dX6_chains_130 : decode cX6_chains 130 = .ok (.goto 4, 3) := by decide +kernel
theorem dX6_chains_133 : decode cX6_chains 133 = .ok (.iconst 0, 1) := by decide +kernel
theorem dX6_chains_134 : decode cX6_chains 134 = .ok (.istore_n 1, 1) := by decide +kernel
theorem dX6_chains_135 : decode cX6_chains 135 = .ok (.goto 112, 3) := by decide +kernel
theorem dX6_chains_138 : decode cX6_chains 138 = .ok (.aload_n 0, 1) := by decide +kernel
theorem dX6_chains_139 : decode cX6_chains 139 = .ok (.getfield 49, 3) := by decide +kernel
theorem dX6_chains_142 : decode cX6_chains 142 = .ok (.iload 4, 2) := by decide +kernel
theorem dX6_chains_144 : decode cX6_chains 144 = .ok (.iaload, 1) := by decide +kernel
theorem dX6_chains_145 : decode cX6_chains 145 = .ok (.istore 6, 2) := by decide +kernel
theorem dX6_chains_147 : decode cX6_chains 147 = .ok (.aload_n 0, 1) := by decide +kernel
theorem dX6_chains_148 : decode cX6_chains 148 = .ok (.getfield 52, 3) := by decide +kernel
theorem dX6_chains_151 : decode cX6_chains 151 = .ok (.iload_n 3, 1) := by decide +kernel
theorem dX6_chains_152 : decode cX6_chains 152 = .ok (.baload, 1) := by decide +kernel
theorem dX6_chains_153 : decode cX6_chains 153 = .ok (.aload_n 0, 1) := by decide +kernel
theorem dX6_chains_154 : decode cX6_chains 154 = .ok (.getfield 52, 3) := by decide +kernel
theorem dX6_chains_157 : decode cX6_chains 157 = .ok (.iload 4, 2) := by decide +kernel
theorem dX6_chains_159 : decode cX6_chains 159 = .ok (.baload, 1) := by decide +kernel
theorem dX6_chains_160 : decode cX6_chains 160 = .ok (.if_icmp .eq 7, 3) := by decide +kernel
theorem dX6_chains_163 : decode cX6_chains 163 = .ok (.iconst 1, 1) := by decide +kernel
theorem dX6_chains_164 : decode cX6_chains 164 = .ok (.goto 4, 3) := by decide +kernel
theorem dX6_chains_167 : decode cX6_chains 167 = .ok (.iconst 0, 1) := by decide +kernel
theorem dX6_chains_168 : decode cX6_chains 168 = .ok (.iload 5, 2) := by decide +kernel
theorem dX6_chains_170 : decode cX6_chains 170 = .ok (.if_icmp .eq 7, 3) := by decide +kernel
theorem dX6_chains_173 : decode cX6_chains 173 = .ok (.iconst 1, 1) := by decide +kernel
theorem dX6_chains_174 : decode cX6_chains 174 = .ok (.goto 4, 3) := by decide +kernel
theorem dX6_chains_177 : decode cX6_chains 177 = .ok (.iconst 0, 1) := by decide +kernel
theorem dX6_chains_178 : decode cX6_chains 178 = .ok (.istore 7, 2) := by decide +kernel
theorem dX6_chains_180 : decode cX6_chains 180 = .ok (.iconst 0, 1) := by decide +kernel
theorem dX6_chains_181 : decode cX6_chains 181 = .ok (.istore 8, 2) := by decide +kernel
theorem dX6_chains_183 : decode cX6_chains 183 = .ok (.iload 8, 2) := by decide +kernel
theorem dX6_chains_185 : decode cX6_chains 185 = .ok (.aload_n 0, 1) := by decide +kernel
theorem dX6_chains_186 : decode cX6_chains 186 = .ok (.getfield 71, 3) := by decide +kernel
theorem dX6_chains_189 : decode cX6_chains 189 = .ok (.if_icmp .gt 58, 3) := by decide +kernel
theorem dX6_chains_192 : decode cX6_chains 192 = .ok (.aload_n 0, 1) := by decide +kernel
theorem dX6_chains_193 : decode cX6_chains 193 = .ok (.getfield 49, 3) := by decide +kernel
theorem dX6_chains_196 : decode cX6_chains 196 = .ok (.iload 8, 2) := by decide +kernel
theorem dX6_chains_198 : decode cX6_chains 198 = .ok (.iaload, 1) := by decide +kernel
theorem dX6_chains_199 : decode cX6_chains 199 = .ok (.iload 6, 2) := by decide +kernel
theorem dX6_chains_201 : decode cX6_chains 201 = .ok (.if_icmp .ne 40, 3) := by decide +kernel
theorem dX6_chains_204 : decode cX6_chains 204 = .ok (.aload_n 0, 1) := by decide +kernel
theorem dX6_chains_205 : decode cX6_chains 205 = .ok (.getfield 49, 3) := by decide +kernel
theorem dX6_chains_208 : decode cX6_chains 208 = .ok (.iload 8, 2) := by decide +kernel
theorem dX6_chains_210 : decode cX6_chains 210 = .ok (.aload_n 0, 1) := by decide +kernel
theorem dX6_chains_211 : decode cX6_chains 211 = .ok (.getfield 49, 3) := by decide +kernel
theorem dX6_chains_214 : decode cX6_chains 214 = .ok (.iload_n 3, 1) := by decide +kernel
theorem dX6_chains_215 : decode cX6_chains 215 = .ok (.iaload, 1) := by decide +kernel
theorem dX6_chains_216 : decode cX6_chains 216 = .ok (.iastore, 1) := by decide +kernel
theorem dX6_chains_217 : decode cX6_chains 217 = .ok (.aload_n 0, 1) := by decide +kernel
theorem dX6_chains_218 : decode cX6_chains 218 = .ok (.getfield 52, 3) := by decide +kernel
theorem dX6_chains_221 : decode cX6_chains 221 = .ok (.iload 8, 2) := by decide +kernel
theorem dX6_chains_223 : decode cX6_chains 223 = .ok (.aload_n 0, 1) := by decide +kernel
theorem dX6_chains_224 : decode cX6_chains 224 = .ok (.getfield 52, 3) := by decide +kernel
theorem dX6_chains_227 : decode cX6_chains 227 = .ok (.iload 8, 2) := by decide +kernel
theorem dX6_chains_229 : decode cX6_chains 229 = .ok (.baload, 1) := by decide +kernel
theorem dX6_chains_230 : decode cX6_chains 230 = .ok (.iload 7, 2) := by decide +kernel
theorem dX6_chains_232 : decode cX6_chains 232 = .ok (.if_icmp .eq 7, 3) := by decide +kernel
theorem dX6_chains_235 : decode cX6_chains 235 = .ok (.iconst 1, 1) := by decide +kernel
theorem dX6_chains_236 : decode cX6_chains 236 = .ok (.goto 4, 3) := by decide +kernel
theorem dX6_chains_239 : decode cX6_chains 239 = .ok (.iconst 0, 1) := by decide +kernel
theorem dX6_chains_240 : decode cX6_chains 240 = .ok (.bastore, 1) := by decide +kernel
theorem dX6_chains_241 : decode cX6_chains 241 = .ok (.iinc 8 1, 3) := by decide +kernel
theorem dX6_chains_244 : decode cX6_chains 244 = .ok (.goto (-61), 3) := by decide +kernel
theorem dX6_chains_247 : decode cX6_chains 247 = .ok (.iinc 2 1, 3) := by decide +kernel
theorem dX6_chains_250 : decode cX6_chains 250 = .ok (.goto (-216), 3) := by decide +kernel
theorem dX6_chains_253 : decode cX6_chains 253 = .ok (.iload_n 1, 1) := by decide +kernel
theorem dX6_chains_254 : decode cX6_chains 254 = .ok (.ireturn, 1) := by decide +kernel
theorem dX6_brokenBy_0 : decode cX6_brokenBy 0 = .ok (.iconst 0, 1) := by decide +kernel
theorem dX6_brokenBy_1 : decode cX6_brokenBy 1 = .ok (.istore_n 1, 1) := by decide +kernel
theorem dX6_brokenBy_2 : decode cX6_brokenBy 2 = .ok (.iload_n 1, 1) := by decide +kernel
theorem dX6_brokenBy_3 : decode cX6_brokenBy 3 = .ok (.aload_n 0, 1) := by decide +kernel
theorem dX6_brokenBy_4 : decode cX6_brokenBy 4 = .ok (.getfield 71, 3) := by decide +kernel
theorem dX6_brokenBy_7 : decode cX6_brokenBy 7 = .ok (.if_icmp .ge 55, 3) := by decide +kernel
theorem dX6_brokenBy_10 : decode cX6_brokenBy 10 = .ok (.aload_n 0, 1) := by decide +kernel
theorem dX6_brokenBy_11 : decode cX6_brokenBy 11 = .ok (.iload_n 1, 1) := by decide +kernel
theorem dX6_brokenBy_12 : decode cX6_brokenBy 12 = .ok (.iconst 1, 1) := by decide +kernel
theorem dX6_brokenBy_13 : decode cX6_brokenBy 13 = .ok (.invokevirtual 111, 3) := by decide +kernel
theorem dX6_brokenBy_16 : decode cX6_brokenBy 16 = .ok (.istore_n 2, 1) := by decide +kernel
theorem dX6_brokenBy_17 : decode cX6_brokenBy 17 = .ok (.aload_n 0, 1) := by decide +kernel
theorem dX6_brokenBy_18 : decode cX6_brokenBy 18 = .ok (.getfield 25, 3) := by decide +kernel
theorem dX6_brokenBy_21 : decode cX6_brokenBy 21 = .ok (.iload_n 1, 1) := by decide +kernel
theorem dX6_brokenBy_22 : decode cX6_brokenBy 22 = .ok (.iaload, 1) := by decide +kernel
theorem dX6_brokenBy_23 : decode cX6_brokenBy 23 = .ok (.iconst (-1), 1) := by decide +kernel
theorem dX6_brokenBy_24 : decode cX6_brokenBy 24 = .ok (.if_icmp .eq 32, 3) := by decide +kernel
theorem dX6_brokenBy_27 : decode cX6_brokenBy 27 = .ok (.iload_n 2, 1) := by decide +kernel
theorem dX6_brokenBy_28 : decode cX6_brokenBy 28 = .ok (.aload_n 0, 1) := by decide +kernel
theorem dX6_brokenBy_29 : decode cX6_brokenBy 29 = .ok (.getfield 25, 3) := by decide +kernel
theorem dX6_brokenBy_32 : decode cX6_brokenBy 32 = .ok (.iload_n 1, 1) := by decide +kernel
theorem dX6_brokenBy_33 : decode cX6_brokenBy 33 = .ok (.iaload, 1) := by decide +kernel
theorem dX6_brokenBy_34 : decode cX6_brokenBy 34 = .ok (.if_icmp .gt 20, 3) := by decide +kernel
theorem dX6_brokenBy_37 : decode cX6_brokenBy 37 = .ok (.iload_n 2, 1) := by decide +kernel
theorem dX6_brokenBy_38 : decode cX6_brokenBy 38 = .ok (.aload_n 0, 1) := by decide +kernel
theorem dX6_brokenBy_39 : decode cX6_brokenBy 39 = .ok (.iload_n 1, 1) := by decide +kernel
theorem dX6_brokenBy_40 : decode cX6_brokenBy 40 = .ok (.iconst 0, 1) := by decide +kernel
theorem dX6_brokenBy_41 : decode cX6_brokenBy 41 = .ok (.invokevirtual 111, 3) := by decide +kernel
theorem dX6_brokenBy_44 : decode cX6_brokenBy 44 = .ok (.iadd, 1) := by decide +kernel
theorem dX6_brokenBy_45 : decode cX6_brokenBy 45 = .ok (.aload_n 0, 1) := by decide +kernel
theorem dX6_brokenBy_46 : decode cX6_brokenBy 46 = .ok (.getfield 25, 3) := by decide +kernel
theorem dX6_brokenBy_49 : decode cX6_brokenBy 49 = .ok (.iload_n 1, 1) := by decide +kernel
theorem dX6_brokenBy_50 : decode cX6_brokenBy 50 = .ok (.iaload, 1) := by decide +kernel
theorem dX6_brokenBy_51 : decode cX6_brokenBy 51 = .ok (.if_icmp .ge 5, 3) := by decide +kernel
theorem dX6_brokenBy_54 : decode cX6_brokenBy 54 = .ok (.iconst 1, 1) := by decide +kernel
theorem dX6_brokenBy_55 : decode cX6_brokenBy 55 = .ok (.ireturn, 1) := by decide +kernel
theorem dX6_brokenBy_56 : decode cX6_brokenBy 56 = .ok (.iinc 1 1, 3) := by decide +kernel
theorem dX6_brokenBy_59 : decode cX6_brokenBy 59 = .ok (.goto (-57), 3) := by decide +kernel
theorem dX6_brokenBy_62 : decode cX6_brokenBy 62 = .ok (.iconst 0, 1) := by decide +kernel
theorem dX6_brokenBy_63 : decode cX6_brokenBy 63 = .ok (.istore_n 1, 1) := by decide +kernel
theorem dX6_brokenBy_64 : decode cX6_brokenBy 64 = .ok (.iload_n 1, 1) := by decide +kernel
theorem dX6_brokenBy_65 : decode cX6_brokenBy 65 = .ok (.aload_n 0, 1) := by decide +kernel
theorem dX6_brokenBy_66 : decode cX6_brokenBy 66 = .ok (.getfield 83, 3) := by decide +kernel
theorem dX6_brokenBy_69 : decode cX6_brokenBy 69 = .ok (.if_icmp .ge 37, 3) := by decide +kernel
theorem dX6_brokenBy_72 : decode cX6_brokenBy 72 = .ok (.aload_n 0, 1) := by decide +kernel
theorem dX6_brokenBy_73 : decode cX6_brokenBy 73 = .ok (.iload_n 1, 1) := by decide +kernel
theorem dX6_brokenBy_74 : decode cX6_brokenBy 74 = .ok (.iconst 1, 1) := by decide +kernel
theorem dX6_brokenBy_75 : decode cX6_brokenBy 75 = .ok (.invokevirtual 114, 3) := by decide +kernel
theorem dX6_brokenBy_78 : decode cX6_brokenBy 78 = .ok (.istore_n 2, 1) := by decide +kernel
theorem dX6_brokenBy_79 : decode cX6_brokenBy 79 = .ok (.iload_n 2, 1) := by decide +kernel
theorem dX6_brokenBy_80 : decode cX6_brokenBy 80 = .ok (.iconst 2, 1) := by decide +kernel
theorem dX6_brokenBy_81 : decode cX6_brokenBy 81 = .ok (.if_icmp .gt 17, 3) := by decide +kernel
theorem dX6_brokenBy_84 : decode cX6_brokenBy 84 = .ok (.iload_n 2, 1) := by decide +kernel
theorem dX6_brokenBy_85 : decode cX6_brokenBy 85 = .ok (.iconst 1, 1) := by decide +kernel
theorem dX6_brokenBy_86 : decode cX6_brokenBy 86 = .ok (.if_icmp .ne 14, 3) := by decide +kernel
theorem dX6_brokenBy_89 : decode cX6_brokenBy 89 = .ok (.aload_n 0, 1) := by decide +kernel
theorem dX6_brokenBy_90 : decode cX6_brokenBy 90 = .ok (.iload_n 1, 1) := by decide +kernel
theorem dX6_brokenBy_91 : decode cX6_brokenBy 91 = .ok (.iconst 0, 1) := by decide +kernel
theorem dX6_brokenBy_92 : decode cX6_brokenBy 92 = .ok (.invokevirtual 114, 3) := by decide +kernel
theorem dX6_brokenBy_95 : decode cX6_brokenBy 95 = .ok (.ifCond .ne 5, 3) := by decide +kernel
theorem dX6_brokenBy_98 : decode cX6_brokenBy 98 = .ok (.iconst 2, 1) := by decide +kernel
theorem dX6_brokenBy_99 : decode cX6_brokenBy 99 = .ok (.ireturn, 1) := by decide +kernel
theorem dX6_brokenBy_100 : decode cX6_brokenBy 100 = .ok (.iinc 1 1, 3) := by decide +kernel
theorem dX6_brokenBy_103 : decode cX6_brokenBy 103 = .ok (.goto (-39), 3) := by decide +kernel
theorem dX6_brokenBy_106 : decode cX6_brokenBy 106 = .ok (.aload_n 0, 1) := by decide +kernel
theorem dX6_brokenBy_107 : decode cX6_brokenBy 107 = .ok (.invokevirtual 121, 3) := by decide +kernel
theorem dX6_brokenBy_110 : decode cX6_brokenBy 110 = .ok (.aload_n 0, 1) := by decide +kernel
theorem dX6_brokenBy_111 : decode cX6_brokenBy 111 = .ok (.invokevirtual 124, 3) := by decide +kernel
theorem dX6_brokenBy_114 : decode cX6_brokenBy 114 = .ok (.ifCond .eq 20, 3) := by decide +kernel
theorem dX6_brokenBy_117 : decode cX6_brokenBy 117 = .ok (.aload_n 0, 1) := by decide +kernel
theorem dX6_brokenBy_118 : decode cX6_brokenBy 118 = .ok (.invokevirtual 117, 3) := by decide +kernel
theorem dX6_brokenBy_121 : decode cX6_brokenBy 121 = .ok (.iconst 1, 1) := by decide +kernel
theorem dX6_brokenBy_122 : decode cX6_brokenBy 122 = .ok (.if_icmp .gt 10, 3) := by decide +kernel
theorem dX6_brokenBy_125 : decode cX6_brokenBy 125 = .ok (.aload_n 0, 1) := by decide +kernel
theorem dX6_brokenBy_126 : decode cX6_brokenBy 126 = .ok (.invokevirtual 128, 3) := by decide +kernel
theorem dX6_brokenBy_129 : decode cX6_brokenBy 129 = .ok (.ifCond .ne 5, 3) := by decide +kernel
theorem dX6_brokenBy_132 : decode cX6_brokenBy 132 = .ok (.iconst 3, 1) := by decide +kernel
theorem dX6_brokenBy_133 : decode cX6_brokenBy 133 = .ok (.ireturn, 1) := by decide +kernel
theorem dX6_brokenBy_134 : decode cX6_brokenBy 134 = .ok (.aload_n 0, 1) := by decide +kernel
theorem dX6_brokenBy_135 : decode cX6_brokenBy 135 = .ok (.invokevirtual 131, 3) := by decide +kernel
theorem dX6_brokenBy_138 : decode cX6_brokenBy 138 = .ok (.ifCond .eq 7, 3) := by decide +kernel
theorem dX6_brokenBy_141 : decode cX6_brokenBy 141 = .ok (.iconst 0, 1) := by decide +kernel
theorem dX6_brokenBy_142 : decode cX6_brokenBy 142 = .ok (.goto 4, 3) := by decide +kernel
theorem dX6_brokenBy_145 : decode cX6_brokenBy 145 = .ok (.iconst 4, 1) := by decide +kernel
theorem dX6_brokenBy_146 : decode cX6_brokenBy 146 = .ok (.ireturn, 1) := by decide +kernel
theorem dX6_want_0 : decode cX6_want 0 = .ok (.aload_n 0, 1) := by decide +kernel
theorem dX6_want_1 : decode cX6_want 1 = .ok (.getfield 31, 3) := by decide +kernel
theorem dX6_want_4 : decode cX6_want 4 = .ok (.iload_n 1, 1) := by decide +kernel
theorem dX6_want_5 : decode cX6_want 5 = .ok (.iaload, 1) := by decide +kernel
theorem dX6_want_6 : decode cX6_want 6 = .ok (.ifCond .ne 48, 3) := by decide +kernel
theorem dX6_want_9 : decode cX6_want 9 = .ok (.aload_n 0, 1) := by decide +kernel
theorem dX6_want_10 : decode cX6_want 10 = .ok (.getfield 34, 3) := by decide +kernel
theorem dX6_want_13 : decode cX6_want 13 = .ok (.iload_n 1, 1) := by decide +kernel
theorem dX6_want_14 : decode cX6_want 14 = .ok (.dup2, 1) := by decide +kernel
theorem dX6_want_15 : decode cX6_want 15 = .ok (.iaload, 1) := by decide +kernel
theorem dX6_want_16 : decode cX6_want 16 = .ok (.iload_n 2, 1) := by decide +kernel
theorem dX6_want_17 : decode cX6_want 17 = .ok (.ior, 1) := by decide +kernel
theorem dX6_want_18 : decode cX6_want 18 = .ok (.iastore, 1) := by decide +kernel
theorem dX6_want_19 : decode cX6_want 19 = .ok (.aload_n 0, 1) := by decide +kernel
theorem dX6_want_20 : decode cX6_want 20 = .ok (.getfield 37, 3) := by decide +kernel
theorem dX6_want_23 : decode cX6_want 23 = .ok (.iload_n 1, 1) := by decide +kernel
theorem dX6_want_24 : decode cX6_want 24 = .ok (.aload_n 0, 1) := by decide +kernel
theorem dX6_want_25 : decode cX6_want 25 = .ok (.getfield 37, 3) := by decide +kernel
theorem dX6_want_28 : decode cX6_want 28 = .ok (.iload_n 1, 1) := by decide +kernel
theorem dX6_want_29 : decode cX6_want 29 = .ok (.iaload, 1) := by decide +kernel
theorem dX6_want_30 : decode cX6_want 30 = .ok (.ifCond .eq 13, 3) := by decide +kernel
theorem dX6_want_33 : decode cX6_want 33 = .ok (.iload_n 3, 1) := by decide +kernel
theorem dX6_want_34 : decode cX6_want 34 = .ok (.aload_n 0, 1) := by decide +kernel
theorem dX6_want_35 : decode cX6_want 35 = .ok (.getfield 37, 3) := by decide +kernel
theorem dX6_want_38 : decode cX6_want 38 = .ok (.iload_n 1, 1) := by decide +kernel
theorem dX6_want_39 : decode cX6_want 39 = .ok (.iaload, 1) := by decide +kernel
theorem dX6_want_40 : decode cX6_want 40 = .ok (.if_icmp .ge 7, 3) := by decide +kernel
theorem dX6_want_43 : decode cX6_want 43 = .ok (.iload_n 3, 1) := by decide +kernel
theorem dX6_want_44 : decode cX6_want 44 = .ok (.goto 9, 3) := by decide +kernel
theorem dX6_want_47 : decode cX6_want 47 = .ok (.aload_n 0, 1) := by decide +kernel
theorem dX6_want_48 : decode cX6_want 48 = .ok (.getfield 37, 3) := by decide +kernel
theorem dX6_want_51 : decode cX6_want 51 = .ok (.iload_n 1, 1) := by decide +kernel
theorem dX6_want_52 : decode cX6_want 52 = .ok (.iaload, 1) := by decide +kernel
theorem dX6_want_53 : decode cX6_want 53 = .ok (.iastore, 1) := by decide +kernel
theorem dX6_want_54 : decode cX6_want 54 = .ok (.return_, 1) := by decide +kernel
theorem dX6_wantAround_0 : decode cX6_wantAround 0 = .ok (.iconst 0, 1) := by decide +kernel
theorem dX6_wantAround_1 : decode cX6_wantAround 1 = .ok (.istore 4, 2) := by decide +kernel
theorem dX6_wantAround_3 : decode cX6_wantAround 3 = .ok (.iload 4, 2) := by decide +kernel
theorem dX6_wantAround_5 : decode cX6_wantAround 5 = .ok (.iconst 4, 1) := by decide +kernel
theorem dX6_wantAround_6 : decode cX6_wantAround 6 = .ok (.if_icmp .ge 26, 3) := by decide +kernel
theorem dX6_wantAround_9 : decode cX6_wantAround 9 = .ok (.aload_n 0, 1) := by decide +kernel
theorem dX6_wantAround_10 : decode cX6_wantAround 10 = .ok (.aload_n 0, 1) := by decide +kernel
theorem dX6_wantAround_11 : decode cX6_wantAround 11 = .ok (.getfield 22, 3) := by decide +kernel
theorem dX6_wantAround_14 : decode cX6_wantAround 14 = .ok (.iconst 4, 1) := by decide +kernel
theorem dX6_wantAround_15 : decode cX6_wantAround 15 = .ok (.iload_n 1, 1) := by decide +kernel
theorem dX6_wantAround_16 : decode cX6_wantAround 16 = .ok (.imul, 1) := by decide +kernel
theorem dX6_wantAround_17 : decode cX6_wantAround 17 = .ok (.iload 4, 2) := by decide +kernel
theorem dX6_wantAround_19 : decode cX6_wantAround 19 = .ok (.iadd, 1) := by decide +kernel
theorem dX6_wantAround_20 : decode cX6_wantAround 20 = .ok (.iaload, 1) := by decide +kernel
theorem dX6_wantAround_21 : decode cX6_wantAround 21 = .ok (.iload_n 2, 1) := by decide +kernel
theorem dX6_wantAround_22 : decode cX6_wantAround 22 = .ok (.iload_n 3, 1) := by decide +kernel
theorem dX6_wantAround_23 : decode cX6_wantAround 23 = .ok (.invokevirtual 134, 3) := by decide +kernel
theorem dX6_wantAround_26 : decode cX6_wantAround 26 = .ok (.iinc 4 1, 3) := by decide +kernel
theorem dX6_wantAround_29 : decode cX6_wantAround 29 = .ok (.goto (-26), 3) := by decide +kernel
theorem dX6_wantAround_32 : decode cX6_wantAround 32 = .ok (.return_, 1) := by decide +kernel
theorem dX6_wantAt_0 : decode cX6_wantAt 0 = .ok (.iconst 0, 1) := by decide +kernel
theorem dX6_wantAt_1 : decode cX6_wantAt 1 = .ok (.istore 4, 2) := by decide +kernel
theorem dX6_wantAt_3 : decode cX6_wantAt 3 = .ok (.iload 4, 2) := by decide +kernel
theorem dX6_wantAt_5 : decode cX6_wantAt 5 = .ok (.aload_n 0, 1) := by decide +kernel
theorem dX6_wantAt_6 : decode cX6_wantAt 6 = .ok (.getfield 74, 3) := by decide +kernel
theorem dX6_wantAt_9 : decode cX6_wantAt 9 = .ok (.if_icmp .ge 39, 3) := by decide +kernel
theorem dX6_wantAt_12 : decode cX6_wantAt 12 = .ok (.aload_n 0, 1) := by decide +kernel
theorem dX6_wantAt_13 : decode cX6_wantAt 13 = .ok (.getfield 7, 3) := by decide +kernel
theorem dX6_wantAt_16 : decode cX6_wantAt 16 = .ok (.iload 4, 2) := by decide +kernel
theorem dX6_wantAt_18 : decode cX6_wantAt 18 = .ok (.iaload, 1) := by decide +kernel
theorem dX6_wantAt_19 : decode cX6_wantAt 19 = .ok (.iload_n 1, 1) := by decide +kernel
theorem dX6_wantAt_20 : decode cX6_wantAt 20 = .ok (.if_icmp .eq 14, 3) := by decide +kernel
theorem dX6_wantAt_23 : decode cX6_wantAt 23 = .ok (.aload_n 0, 1) := by decide +kernel
theorem dX6_wantAt_24 : decode cX6_wantAt 24 = .ok (.getfield 13, 3) := by decide +kernel
theorem dX6_wantAt_27 : decode cX6_wantAt 27 = .ok (.iload 4, 2) := by decide +kernel
theorem dX6_wantAt_29 : decode cX6_wantAt 29 = .ok (.iaload, 1) := by decide +kernel
theorem dX6_wantAt_30 : decode cX6_wantAt 30 = .ok (.iload_n 1, 1) := by decide +kernel
theorem dX6_wantAt_31 : decode cX6_wantAt 31 = .ok (.if_icmp .ne 11, 3) := by decide +kernel
theorem dX6_wantAt_34 : decode cX6_wantAt 34 = .ok (.aload_n 0, 1) := by decide +kernel
theorem dX6_wantAt_35 : decode cX6_wantAt 35 = .ok (.iload 4, 2) := by decide +kernel
theorem dX6_wantAt_37 : decode cX6_wantAt 37 = .ok (.iload_n 2, 1) := by decide +kernel
theorem dX6_wantAt_38 : decode cX6_wantAt 38 = .ok (.iload_n 3, 1) := by decide +kernel
theorem dX6_wantAt_39 : decode cX6_wantAt 39 = .ok (.invokevirtual 134, 3) := by decide +kernel
theorem dX6_wantAt_42 : decode cX6_wantAt 42 = .ok (.iinc 4 1, 3) := by decide +kernel
theorem dX6_wantAt_45 : decode cX6_wantAt 45 = .ok (.goto (-42), 3) := by decide +kernel
theorem dX6_wantAt_48 : decode cX6_wantAt 48 = .ok (.return_, 1) := by decide +kernel
theorem dX6_closes_0 : decode cX6_closes 0 = .ok (.aload_n 0, 1) := by decide +kernel
theorem dX6_closes_1 : decode cX6_closes 1 = .ok (.getfield 31, 3) := by decide +kernel
theorem dX6_closes_4 : decode cX6_closes 4 = .ok (.iload_n 1, 1) := by decide +kernel
theorem dX6_closes_5 : decode cX6_closes 5 = .ok (.iconst 1, 1) := by decide +kernel
theorem dX6_closes_6 : decode cX6_closes 6 = .ok (.iastore, 1) := by decide +kernel
theorem dX6_closes_7 : decode cX6_closes 7 = .ok (.aload_n 0, 1) := by decide +kernel
theorem dX6_closes_8 : decode cX6_closes 8 = .ok (.invokevirtual 121, 3) := by decide +kernel
theorem dX6_closes_11 : decode cX6_closes 11 = .ok (.aload_n 0, 1) := by decide +kernel
theorem dX6_closes_12 : decode cX6_closes 12 = .ok (.invokevirtual 138, 3) := by decide +kernel
theorem dX6_closes_15 : decode cX6_closes 15 = .ok (.ifCond .eq 14, 3) := by decide +kernel
theorem dX6_closes_18 : decode cX6_closes 18 = .ok (.aload_n 0, 1) := by decide +kernel
theorem dX6_closes_19 : decode cX6_closes 19 = .ok (.invokevirtual 128, 3) := by decide +kernel
theorem dX6_closes_22 : decode cX6_closes 22 = .ok (.ifCond .eq 7, 3) := by decide +kernel
theorem dX6_closes_25 : decode cX6_closes 25 = .ok (.iconst 1, 1) := by decide +kernel
theorem dX6_closes_26 : decode cX6_closes 26 = .ok (.goto 4, 3) := by decide +kernel
theorem dX6_closes_29 : decode cX6_closes 29 = .ok (.iconst 0, 1) := by decide +kernel
theorem dX6_closes_30 : decode cX6_closes 30 = .ok (.istore_n 2, 1) := by decide +kernel
theorem dX6_closes_31 : decode cX6_closes 31 = .ok (.aload_n 0, 1) := by decide +kernel
theorem dX6_closes_32 : decode cX6_closes 32 = .ok (.getfield 31, 3) := by decide +kernel
theorem dX6_closes_35 : decode cX6_closes 35 = .ok (.iload_n 1, 1) := by decide +kernel
theorem dX6_closes_36 : decode cX6_closes 36 = .ok (.iconst 0, 1) := by decide +kernel
theorem dX6_closes_37 : decode cX6_closes 37 = .ok (.iastore, 1) := by decide +kernel
theorem dX6_closes_38 : decode cX6_closes 38 = .ok (.aload_n 0, 1) := by decide +kernel
theorem dX6_closes_39 : decode cX6_closes 39 = .ok (.invokevirtual 121, 3) := by decide +kernel
theorem dX6_closes_42 : decode cX6_closes 42 = .ok (.iload_n 2, 1) := by decide +kernel
theorem dX6_closes_43 : decode cX6_closes 43 = .ok (.ireturn, 1) := by decide +kernel
theorem dX6_asks_0 : decode cX6_asks 0 = .ok (.iconst 0, 1) := by decide +kernel
theorem dX6_asks_1 : decode cX6_asks 1 = .ok (.istore_n 1, 1) := by decide +kernel
theorem dX6_asks_2 : decode cX6_asks 2 = .ok (.iload_n 1, 1) := by decide +kernel
theorem dX6_asks_3 : decode cX6_asks 3 = .ok (.aload_n 0, 1) := by decide +kernel
theorem dX6_asks_4 : decode cX6_asks 4 = .ok (.getfield 74, 3) := by decide +kernel
theorem dX6_asks_7 : decode cX6_asks 7 = .ok (.if_icmp .ge 23, 3) := by decide +kernel
theorem dX6_asks_10 : decode cX6_asks 10 = .ok (.aload_n 0, 1) := by decide +kernel
theorem dX6_asks_11 : decode cX6_asks 11 = .ok (.getfield 34, 3) := by decide +kernel
theorem dX6_asks_14 : decode cX6_asks 14 = .ok (.iload_n 1, 1) := by decide +kernel
theorem dX6_asks_15 : decode cX6_asks 15 = .ok (.iconst 0, 1) := by decide +kernel
theorem dX6_asks_16 : decode cX6_asks 16 = .ok (.iastore, 1) := by decide +kernel
theorem dX6_asks_17 : decode cX6_asks 17 = .ok (.aload_n 0, 1) := by decide +kernel
theorem dX6_asks_18 : decode cX6_asks 18 = .ok (.getfield 37, 3) := by decide +kernel
theorem dX6_asks_21 : decode cX6_asks 21 = .ok (.iload_n 1, 1) := by decide +kernel
theorem dX6_asks_22 : decode cX6_asks 22 = .ok (.iconst 0, 1) := by decide +kernel
theorem dX6_asks_23 : decode cX6_asks 23 = .ok (.iastore, 1) := by decide +kernel
theorem dX6_asks_24 : decode cX6_asks 24 = .ok (.iinc 1 1, 3) := by decide +kernel
theorem dX6_asks_27 : decode cX6_asks 27 = .ok (.goto (-25), 3) := by decide +kernel
theorem dX6_asks_30 : decode cX6_asks 30 = .ok (.iconst 0, 1) := by decide +kernel
theorem dX6_asks_31 : decode cX6_asks 31 = .ok (.istore_n 1, 1) := by decide +kernel
theorem dX6_asks_32 : decode cX6_asks 32 = .ok (.iload_n 1, 1) := by decide +kernel
theorem dX6_asks_33 : decode cX6_asks 33 = .ok (.aload_n 0, 1) := by decide +kernel
theorem dX6_asks_34 : decode cX6_asks 34 = .ok (.getfield 71, 3) := by decide +kernel
theorem dX6_asks_37 : decode cX6_asks 37 = .ok (.if_icmp .ge 57, 3) := by decide +kernel
theorem dX6_asks_40 : decode cX6_asks 40 = .ok (.aload_n 0, 1) := by decide +kernel
theorem dX6_asks_41 : decode cX6_asks 41 = .ok (.iload_n 1, 1) := by decide +kernel
theorem dX6_asks_42 : decode cX6_asks 42 = .ok (.iconst 1, 1) := by decide +kernel
theorem dX6_asks_43 : decode cX6_asks 43 = .ok (.invokevirtual 111, 3) := by decide +kernel
theorem dX6_asks_46 : decode cX6_asks 46 = .ok (.istore_n 2, 1) := by decide +kernel
theorem dX6_asks_47 : decode cX6_asks 47 = .ok (.aload_n 0, 1) := by decide +kernel
theorem dX6_asks_48 : decode cX6_asks 48 = .ok (.getfield 25, 3) := by decide +kernel
theorem dX6_asks_51 : decode cX6_asks 51 = .ok (.iload_n 1, 1) := by decide +kernel
theorem dX6_asks_52 : decode cX6_asks 52 = .ok (.iaload, 1) := by decide +kernel
theorem dX6_asks_53 : decode cX6_asks 53 = .ok (.iload_n 2, 1) := by decide +kernel
theorem dX6_asks_54 : decode cX6_asks 54 = .ok (.if_icmp .ne 10, 3) := by decide +kernel
theorem dX6_asks_57 : decode cX6_asks 57 = .ok (.aload_n 0, 1) := by decide +kernel
theorem dX6_asks_58 : decode cX6_asks 58 = .ok (.iload_n 1, 1) := by decide +kernel
theorem dX6_asks_59 : decode cX6_asks 59 = .ok (.iconst 2, 1) := by decide +kernel
theorem dX6_asks_60 : decode cX6_asks 60 = .ok (.iconst 1, 1) := by decide +kernel
theorem dX6_asks_61 : decode cX6_asks 61 = .ok (.invokevirtual 141, 3) := by decide +kernel
end
section
theorem dX6_asks_64 : decode cX6_asks 64 = .ok (.aload_n 0, 1) := by decide +kernel
theorem dX6_asks_65 : decode cX6_asks 65 = .ok (.getfield 25, 3) := by decide +kernel
theorem dX6_asks_68 : decode cX6_asks 68 = .ok (.iload_n 1, 1) := by decide +kernel
theorem dX6_asks_69 : decode cX6_asks 69 = .ok (.iaload, 1) := by decide +kernel
theorem dX6_asks_70 : decode cX6_asks 70 = .ok (.iload_n 2, 1) := by decide +kernel
theorem dX6_asks_71 : decode cX6_asks 71 = .ok (.aload_n 0, 1) := by decide +kernel
theorem dX6_asks_72 : decode cX6_asks 72 = .ok (.iload_n 1, 1) := by decide +kernel
theorem dX6_asks_73 : decode cX6_asks 73 = .ok (.iconst 0, 1) := by decide +kernel
theorem dX6_asks_74 : decode cX6_asks 74 = .ok (.invokevirtual 111, 3) := by decide +kernel
theorem dX6_asks_77 : decode cX6_asks 77 = .ok (.iadd, 1) := by decide +kernel
theorem dX6_asks_78 : decode cX6_asks 78 = .ok (.if_icmp .ne 10, 3) := by decide +kernel
theorem dX6_asks_81 : decode cX6_asks 81 = .ok (.aload_n 0, 1) := by decide +kernel
theorem dX6_asks_82 : decode cX6_asks 82 = .ok (.iload_n 1, 1) := by decide +kernel
theorem dX6_asks_83 : decode cX6_asks 83 = .ok (.iconst 1, 1) := by decide +kernel
theorem dX6_asks_84 : decode cX6_asks 84 = .ok (.iconst 2, 1) := by decide +kernel
theorem dX6_asks_85 : decode cX6_asks 85 = .ok (.invokevirtual 141, 3) := by decide +kernel
theorem dX6_asks_88 : decode cX6_asks 88 = .ok (.iinc 1 1, 3) := by decide +kernel
theorem dX6_asks_91 : decode cX6_asks 91 = .ok (.goto (-59), 3) := by decide +kernel
theorem dX6_asks_94 : decode cX6_asks 94 = .ok (.iconst 0, 1) := by decide +kernel
theorem dX6_asks_95 : decode cX6_asks 95 = .ok (.istore_n 1, 1) := by decide +kernel
theorem dX6_asks_96 : decode cX6_asks 96 = .ok (.iload_n 1, 1) := by decide +kernel
theorem dX6_asks_97 : decode cX6_asks 97 = .ok (.aload_n 0, 1) := by decide +kernel
theorem dX6_asks_98 : decode cX6_asks 98 = .ok (.getfield 83, 3) := by decide +kernel
theorem dX6_asks_101 : decode cX6_asks 101 = .ok (.if_icmp .ge 68, 3) := by decide +kernel
theorem dX6_asks_104 : decode cX6_asks 104 = .ok (.aload_n 0, 1) := by decide +kernel
theorem dX6_asks_105 : decode cX6_asks 105 = .ok (.iload_n 1, 1) := by decide +kernel
theorem dX6_asks_106 : decode cX6_asks 106 = .ok (.iconst 1, 1) := by decide +kernel
theorem dX6_asks_107 : decode cX6_asks 107 = .ok (.invokevirtual 114, 3) := by decide +kernel
theorem dX6_asks_110 : decode cX6_asks 110 = .ok (.istore_n 2, 1) := by decide +kernel
theorem dX6_asks_111 : decode cX6_asks 111 = .ok (.aload_n 0, 1) := by decide +kernel
theorem dX6_asks_112 : decode cX6_asks 112 = .ok (.iload_n 1, 1) := by decide +kernel
theorem dX6_asks_113 : decode cX6_asks 113 = .ok (.iconst 0, 1) := by decide +kernel
theorem dX6_asks_114 : decode cX6_asks 114 = .ok (.invokevirtual 114, 3) := by decide +kernel
theorem dX6_asks_117 : decode cX6_asks 117 = .ok (.istore_n 3, 1) := by decide +kernel
theorem dX6_asks_118 : decode cX6_asks 118 = .ok (.iload_n 2, 1) := by decide +kernel
theorem dX6_asks_119 : decode cX6_asks 119 = .ok (.iconst 2, 1) := by decide +kernel
theorem dX6_asks_120 : decode cX6_asks 120 = .ok (.if_icmp .ne 10, 3) := by decide +kernel
theorem dX6_asks_123 : decode cX6_asks 123 = .ok (.aload_n 0, 1) := by decide +kernel
theorem dX6_asks_124 : decode cX6_asks 124 = .ok (.iload_n 1, 1) := by decide +kernel
theorem dX6_asks_125 : decode cX6_asks 125 = .ok (.iconst 2, 1) := by decide +kernel
theorem dX6_asks_126 : decode cX6_asks 126 = .ok (.iconst 3, 1) := by decide +kernel
theorem dX6_asks_127 : decode cX6_asks 127 = .ok (.invokevirtual 144, 3) := by decide +kernel
theorem dX6_asks_130 : decode cX6_asks 130 = .ok (.iload_n 2, 1) := by decide +kernel
theorem dX6_asks_131 : decode cX6_asks 131 = .ok (.iconst 1, 1) := by decide +kernel
theorem dX6_asks_132 : decode cX6_asks 132 = .ok (.if_icmp .ne 15, 3) := by decide +kernel
theorem dX6_asks_135 : decode cX6_asks 135 = .ok (.iload_n 3, 1) := by decide +kernel
theorem dX6_asks_136 : decode cX6_asks 136 = .ok (.iconst 1, 1) := by decide +kernel
theorem dX6_asks_137 : decode cX6_asks 137 = .ok (.if_icmp .ne 10, 3) := by decide +kernel
theorem dX6_asks_140 : decode cX6_asks 140 = .ok (.aload_n 0, 1) := by decide +kernel
theorem dX6_asks_141 : decode cX6_asks 141 = .ok (.iload_n 1, 1) := by decide +kernel
theorem dX6_asks_142 : decode cX6_asks 142 = .ok (.iconst 1, 1) := by decide +kernel
theorem dX6_asks_143 : decode cX6_asks 143 = .ok (.iconst 4, 1) := by decide +kernel
theorem dX6_asks_144 : decode cX6_asks 144 = .ok (.invokevirtual 144, 3) := by decide +kernel
theorem dX6_asks_147 : decode cX6_asks 147 = .ok (.iload_n 2, 1) := by decide +kernel
theorem dX6_asks_148 : decode cX6_asks 148 = .ok (.ifCond .ne 15, 3) := by decide +kernel
theorem dX6_asks_151 : decode cX6_asks 151 = .ok (.iload_n 3, 1) := by decide +kernel
theorem dX6_asks_152 : decode cX6_asks 152 = .ok (.iconst 1, 1) := by decide +kernel
theorem dX6_asks_153 : decode cX6_asks 153 = .ok (.if_icmp .ne 10, 3) := by decide +kernel
theorem dX6_asks_156 : decode cX6_asks 156 = .ok (.aload_n 0, 1) := by decide +kernel
theorem dX6_asks_157 : decode cX6_asks 157 = .ok (.iload_n 1, 1) := by decide +kernel
theorem dX6_asks_158 : decode cX6_asks 158 = .ok (.iconst 2, 1) := by decide +kernel
theorem dX6_asks_159 : decode cX6_asks 159 = .ok (.iconst 5, 1) := by decide +kernel
theorem dX6_asks_160 : decode cX6_asks 160 = .ok (.invokevirtual 144, 3) := by decide +kernel
theorem dX6_asks_163 : decode cX6_asks 163 = .ok (.iinc 1 1, 3) := by decide +kernel
theorem dX6_asks_166 : decode cX6_asks 166 = .ok (.goto (-70), 3) := by decide +kernel
theorem dX6_asks_169 : decode cX6_asks 169 = .ok (.aload_n 0, 1) := by decide +kernel
theorem dX6_asks_170 : decode cX6_asks 170 = .ok (.invokevirtual 121, 3) := by decide +kernel
theorem dX6_asks_173 : decode cX6_asks 173 = .ok (.aload_n 0, 1) := by decide +kernel
theorem dX6_asks_174 : decode cX6_asks 174 = .ok (.invokevirtual 131, 3) := by decide +kernel
theorem dX6_asks_177 : decode cX6_asks 177 = .ok (.pop, 1) := by decide +kernel
theorem dX6_asks_178 : decode cX6_asks 178 = .ok (.iconst 0, 1) := by decide +kernel
theorem dX6_asks_179 : decode cX6_asks 179 = .ok (.istore_n 1, 1) := by decide +kernel
theorem dX6_asks_180 : decode cX6_asks 180 = .ok (.iload_n 1, 1) := by decide +kernel
theorem dX6_asks_181 : decode cX6_asks 181 = .ok (.aload_n 0, 1) := by decide +kernel
theorem dX6_asks_182 : decode cX6_asks 182 = .ok (.getfield 74, 3) := by decide +kernel
theorem dX6_asks_185 : decode cX6_asks 185 = .ok (.if_icmp .ge 121, 3) := by decide +kernel
theorem dX6_asks_188 : decode cX6_asks 188 = .ok (.aload_n 0, 1) := by decide +kernel
theorem dX6_asks_189 : decode cX6_asks 189 = .ok (.getfield 31, 3) := by decide +kernel
theorem dX6_asks_192 : decode cX6_asks 192 = .ok (.iload_n 1, 1) := by decide +kernel
theorem dX6_asks_193 : decode cX6_asks 193 = .ok (.iaload, 1) := by decide +kernel
theorem dX6_asks_194 : decode cX6_asks 194 = .ok (.ifCond .ne 44, 3) := by decide +kernel
theorem dX6_asks_197 : decode cX6_asks 197 = .ok (.aload_n 0, 1) := by decide +kernel
theorem dX6_asks_198 : decode cX6_asks 198 = .ok (.getfield 46, 3) := by decide +kernel
theorem dX6_asks_201 : decode cX6_asks 201 = .ok (.aload_n 0, 1) := by decide +kernel
theorem dX6_asks_202 : decode cX6_asks 202 = .ok (.getfield 7, 3) := by decide +kernel
theorem dX6_asks_205 : decode cX6_asks 205 = .ok (.iload_n 1, 1) := by decide +kernel
theorem dX6_asks_206 : decode cX6_asks 206 = .ok (.iaload, 1) := by decide +kernel
theorem dX6_asks_207 : decode cX6_asks 207 = .ok (.iaload, 1) := by decide +kernel
theorem dX6_asks_208 : decode cX6_asks 208 = .ok (.aload_n 0, 1) := by decide +kernel
theorem dX6_asks_209 : decode cX6_asks 209 = .ok (.getfield 46, 3) := by decide +kernel
theorem dX6_asks_212 : decode cX6_asks 212 = .ok (.aload_n 0, 1) := by decide +kernel
theorem dX6_asks_213 : decode cX6_asks 213 = .ok (.getfield 13, 3) := by decide +kernel
theorem dX6_asks_216 : decode cX6_asks 216 = .ok (.iload_n 1, 1) := by decide +kernel
theorem dX6_asks_217 : decode cX6_asks 217 = .ok (.iaload, 1) := by decide +kernel
theorem dX6_asks_218 : decode cX6_asks 218 = .ok (.iaload, 1) := by decide +kernel
theorem dX6_asks_219 : decode cX6_asks 219 = .ok (.if_icmp .ne 19, 3) := by decide +kernel
theorem dX6_asks_222 : decode cX6_asks 222 = .ok (.aload_n 0, 1) := by decide +kernel
theorem dX6_asks_223 : decode cX6_asks 223 = .ok (.iload_n 1, 1) := by decide +kernel
theorem dX6_asks_224 : decode cX6_asks 224 = .ok (.invokevirtual 147, 3) := by decide +kernel
theorem dX6_asks_227 : decode cX6_asks 227 = .ok (.ifCond .ne 11, 3) := by decide +kernel
theorem dX6_asks_230 : decode cX6_asks 230 = .ok (.aload_n 0, 1) := by decide +kernel
theorem dX6_asks_231 : decode cX6_asks 231 = .ok (.iload_n 1, 1) := by decide +kernel
theorem dX6_asks_232 : decode cX6_asks 232 = .ok (.iconst 2, 1) := by decide +kernel
theorem dX6_asks_233 : decode cX6_asks 233 = .ok (.bipush 6, 2) := by decide +kernel
theorem dX6_asks_235 : decode cX6_asks 235 = .ok (.invokevirtual 134, 3) := by decide +kernel
theorem dX6_asks_238 : decode cX6_asks 238 = .ok (.aload_n 0, 1) := by decide +kernel
theorem dX6_asks_239 : decode cX6_asks 239 = .ok (.getfield 49, 3) := by decide +kernel
theorem dX6_asks_242 : decode cX6_asks 242 = .ok (.aload_n 0, 1) := by decide +kernel
theorem dX6_asks_243 : decode cX6_asks 243 = .ok (.getfield 16, 3) := by decide +kernel
theorem dX6_asks_246 : decode cX6_asks 246 = .ok (.iload_n 1, 1) := by decide +kernel
theorem dX6_asks_247 : decode cX6_asks 247 = .ok (.iaload, 1) := by decide +kernel
theorem dX6_asks_248 : decode cX6_asks 248 = .ok (.iaload, 1) := by decide +kernel
theorem dX6_asks_249 : decode cX6_asks 249 = .ok (.aload_n 0, 1) := by decide +kernel
theorem dX6_asks_250 : decode cX6_asks 250 = .ok (.getfield 49, 3) := by decide +kernel
theorem dX6_asks_253 : decode cX6_asks 253 = .ok (.aload_n 0, 1) := by decide +kernel
theorem dX6_asks_254 : decode cX6_asks 254 = .ok (.getfield 19, 3) := by decide +kernel
theorem dX6_asks_257 : decode cX6_asks 257 = .ok (.iload_n 1, 1) := by decide +kernel
theorem dX6_asks_258 : decode cX6_asks 258 = .ok (.iaload, 1) := by decide +kernel
theorem dX6_asks_259 : decode cX6_asks 259 = .ok (.iaload, 1) := by decide +kernel
theorem dX6_asks_260 : decode cX6_asks 260 = .ok (.if_icmp .ne 40, 3) := by decide +kernel
theorem dX6_asks_263 : decode cX6_asks 263 = .ok (.aload_n 0, 1) := by decide +kernel
theorem dX6_asks_264 : decode cX6_asks 264 = .ok (.iload_n 1, 1) := by decide +kernel
theorem dX6_asks_265 : decode cX6_asks 265 = .ok (.aload_n 0, 1) := by decide +kernel
theorem dX6_asks_266 : decode cX6_asks 266 = .ok (.getfield 52, 3) := by decide +kernel
theorem dX6_asks_269 : decode cX6_asks 269 = .ok (.aload_n 0, 1) := by decide +kernel
theorem dX6_asks_270 : decode cX6_asks 270 = .ok (.getfield 16, 3) := by decide +kernel
theorem dX6_asks_273 : decode cX6_asks 273 = .ok (.iload_n 1, 1) := by decide +kernel
theorem dX6_asks_274 : decode cX6_asks 274 = .ok (.iaload, 1) := by decide +kernel
theorem dX6_asks_275 : decode cX6_asks 275 = .ok (.baload, 1) := by decide +kernel
theorem dX6_asks_276 : decode cX6_asks 276 = .ok (.aload_n 0, 1) := by decide +kernel
theorem dX6_asks_277 : decode cX6_asks 277 = .ok (.getfield 52, 3) := by decide +kernel
theorem dX6_asks_280 : decode cX6_asks 280 = .ok (.aload_n 0, 1) := by decide +kernel
theorem dX6_asks_281 : decode cX6_asks 281 = .ok (.getfield 19, 3) := by decide +kernel
theorem dX6_asks_284 : decode cX6_asks 284 = .ok (.iload_n 1, 1) := by decide +kernel
theorem dX6_asks_285 : decode cX6_asks 285 = .ok (.iaload, 1) := by decide +kernel
theorem dX6_asks_286 : decode cX6_asks 286 = .ok (.baload, 1) := by decide +kernel
theorem dX6_asks_287 : decode cX6_asks 287 = .ok (.if_icmp .eq 7, 3) := by decide +kernel
theorem dX6_asks_290 : decode cX6_asks 290 = .ok (.iconst 1, 1) := by decide +kernel
theorem dX6_asks_291 : decode cX6_asks 291 = .ok (.goto 4, 3) := by decide +kernel
theorem dX6_asks_294 : decode cX6_asks 294 = .ok (.iconst 2, 1) := by decide +kernel
theorem dX6_asks_295 : decode cX6_asks 295 = .ok (.bipush 7, 2) := by decide +kernel
theorem dX6_asks_297 : decode cX6_asks 297 = .ok (.invokevirtual 134, 3) := by decide +kernel
theorem dX6_asks_300 : decode cX6_asks 300 = .ok (.iinc 1 1, 3) := by decide +kernel
theorem dX6_asks_303 : decode cX6_asks 303 = .ok (.goto (-123), 3) := by decide +kernel
theorem dX6_asks_306 : decode cX6_asks 306 = .ok (.return_, 1) := by decide +kernel
theorem dX6_follow_0 : decode cX6_follow 0 = .ok (.aload_n 0, 1) := by decide +kernel
theorem dX6_follow_1 : decode cX6_follow 1 = .ok (.invokevirtual 150, 3) := by decide +kernel
theorem dX6_follow_4 : decode cX6_follow 4 = .ok (.aload_n 0, 1) := by decide +kernel
theorem dX6_follow_5 : decode cX6_follow 5 = .ok (.iconst 0, 1) := by decide +kernel
theorem dX6_follow_6 : decode cX6_follow 6 = .ok (.putfield 153, 3) := by decide +kernel
theorem dX6_follow_9 : decode cX6_follow 9 = .ok (.iconst 0, 1) := by decide +kernel
theorem dX6_follow_10 : decode cX6_follow 10 = .ok (.istore_n 1, 1) := by decide +kernel
theorem dX6_follow_11 : decode cX6_follow 11 = .ok (.iload_n 1, 1) := by decide +kernel
theorem dX6_follow_12 : decode cX6_follow 12 = .ok (.aload_n 0, 1) := by decide +kernel
theorem dX6_follow_13 : decode cX6_follow 13 = .ok (.getfield 74, 3) := by decide +kernel
theorem dX6_follow_16 : decode cX6_follow 16 = .ok (.if_icmp .ge 36, 3) := by decide +kernel
theorem dX6_follow_19 : decode cX6_follow 19 = .ok (.aload_n 0, 1) := by decide +kernel
theorem dX6_follow_20 : decode cX6_follow 20 = .ok (.getfield 40, 3) := by decide +kernel
theorem dX6_follow_23 : decode cX6_follow 23 = .ok (.iload_n 1, 1) := by decide +kernel
theorem dX6_follow_24 : decode cX6_follow 24 = .ok (.aload_n 0, 1) := by decide +kernel
theorem dX6_follow_25 : decode cX6_follow 25 = .ok (.getfield 28, 3) := by decide +kernel
theorem dX6_follow_28 : decode cX6_follow 28 = .ok (.iload_n 1, 1) := by decide +kernel
theorem dX6_follow_29 : decode cX6_follow 29 = .ok (.iaload, 1) := by decide +kernel
theorem dX6_follow_30 : decode cX6_follow 30 = .ok (.ifCond .ne 7, 3) := by decide +kernel
theorem dX6_follow_33 : decode cX6_follow 33 = .ok (.iconst (-1), 1) := by decide +kernel
theorem dX6_follow_34 : decode cX6_follow 34 = .ok (.goto 4, 3) := by decide +kernel
theorem dX6_follow_37 : decode cX6_follow 37 = .ok (.iconst 0, 1) := by decide +kernel
theorem dX6_follow_38 : decode cX6_follow 38 = .ok (.iastore, 1) := by decide +kernel
theorem dX6_follow_39 : decode cX6_follow 39 = .ok (.aload_n 0, 1) := by decide +kernel
theorem dX6_follow_40 : decode cX6_follow 40 = .ok (.getfield 43, 3) := by decide +kernel
theorem dX6_follow_43 : decode cX6_follow 43 = .ok (.iload_n 1, 1) := by decide +kernel
theorem dX6_follow_44 : decode cX6_follow 44 = .ok (.iconst (-1), 1) := by decide +kernel
theorem dX6_follow_45 : decode cX6_follow 45 = .ok (.iastore, 1) := by decide +kernel
theorem dX6_follow_46 : decode cX6_follow 46 = .ok (.iinc 1 1, 3) := by decide +kernel
theorem dX6_follow_49 : decode cX6_follow 49 = .ok (.goto (-38), 3) := by decide +kernel
theorem dX6_follow_52 : decode cX6_follow 52 = .ok (.iconst 1, 1) := by decide +kernel
theorem dX6_follow_53 : decode cX6_follow 53 = .ok (.istore_n 1, 1) := by decide +kernel
theorem dX6_follow_54 : decode cX6_follow 54 = .ok (.iload_n 1, 1) := by decide +kernel
theorem dX6_follow_55 : decode cX6_follow 55 = .ok (.ifCond .eq 174, 3) := by decide +kernel
theorem dX6_follow_58 : decode cX6_follow 58 = .ok (.aload_n 0, 1) := by decide +kernel
theorem dX6_follow_59 : decode cX6_follow 59 = .ok (.aload_n 0, 1) := by decide +kernel
theorem dX6_follow_60 : decode cX6_follow 60 = .ok (.invokevirtual 156, 3) := by decide +kernel
theorem dX6_follow_63 : decode cX6_follow 63 = .ok (.putfield 108, 3) := by decide +kernel
theorem dX6_follow_66 : decode cX6_follow 66 = .ok (.iconst 0, 1) := by decide +kernel
theorem dX6_follow_67 : decode cX6_follow 67 = .ok (.istore_n 1, 1) := by decide +kernel
theorem dX6_follow_68 : decode cX6_follow 68 = .ok (.aload_n 0, 1) := by decide +kernel
theorem dX6_follow_69 : decode cX6_follow 69 = .ok (.getfield 108, 3) := by decide +kernel
theorem dX6_follow_72 : decode cX6_follow 72 = .ok (.ifCond .ne 81, 3) := by decide +kernel
theorem dX6_follow_75 : decode cX6_follow 75 = .ok (.aload_n 0, 1) := by decide +kernel
theorem dX6_follow_76 : decode cX6_follow 76 = .ok (.invokevirtual 159, 3) := by decide +kernel
theorem dX6_follow_79 : decode cX6_follow 79 = .ok (.iconst 0, 1) := by decide +kernel
theorem dX6_follow_80 : decode cX6_follow 80 = .ok (.istore_n 2, 1) := by decide +kernel
theorem dX6_follow_81 : decode cX6_follow 81 = .ok (.iload_n 2, 1) := by decide +kernel
theorem dX6_follow_82 : decode cX6_follow 82 = .ok (.aload_n 0, 1) := by decide +kernel
theorem dX6_follow_83 : decode cX6_follow 83 = .ok (.getfield 74, 3) := by decide +kernel
theorem dX6_follow_86 : decode cX6_follow 86 = .ok (.if_icmp .ge 50, 3) := by decide +kernel
theorem dX6_follow_89 : decode cX6_follow 89 = .ok (.aload_n 0, 1) := by decide +kernel
theorem dX6_follow_90 : decode cX6_follow 90 = .ok (.aload_n 0, 1) := by decide +kernel
theorem dX6_follow_91 : decode cX6_follow 91 = .ok (.getfield 34, 3) := by decide +kernel
theorem dX6_follow_94 : decode cX6_follow 94 = .ok (.iload_n 2, 1) := by decide +kernel
theorem dX6_follow_95 : decode cX6_follow 95 = .ok (.iaload, 1) := by decide +kernel
theorem dX6_follow_96 : decode cX6_follow 96 = .ok (.iconst 3, 1) := by decide +kernel
theorem dX6_follow_97 : decode cX6_follow 97 = .ok (.if_icmp .ne 7, 3) := by decide +kernel
theorem dX6_follow_100 : decode cX6_follow 100 = .ok (.iconst 5, 1) := by decide +kernel
theorem dX6_follow_101 : decode cX6_follow 101 = .ok (.goto 7, 3) := by decide +kernel
theorem dX6_follow_104 : decode cX6_follow 104 = .ok (.aload_n 0, 1) := by decide +kernel
theorem dX6_follow_105 : decode cX6_follow 105 = .ok (.getfield 108, 3) := by decide +kernel
theorem dX6_follow_108 : decode cX6_follow 108 = .ok (.putfield 108, 3) := by decide +kernel
theorem dX6_follow_111 : decode cX6_follow 111 = .ok (.iload_n 1, 1) := by decide +kernel
theorem dX6_follow_112 : decode cX6_follow 112 = .ok (.ifCond .ne 12, 3) := by decide +kernel
theorem dX6_follow_115 : decode cX6_follow 115 = .ok (.aload_n 0, 1) := by decide +kernel
theorem dX6_follow_116 : decode cX6_follow 116 = .ok (.getfield 34, 3) := by decide +kernel
theorem dX6_follow_119 : decode cX6_follow 119 = .ok (.iload_n 2, 1) := by decide +kernel
theorem dX6_follow_120 : decode cX6_follow 120 = .ok (.iaload, 1) := by decide +kernel
theorem dX6_follow_121 : decode cX6_follow 121 = .ok (.ifCond .eq 7, 3) := by decide +kernel
theorem dX6_follow_124 : decode cX6_follow 124 = .ok (.iconst 1, 1) := by decide +kernel
theorem dX6_follow_125 : decode cX6_follow 125 = .ok (.goto 4, 3) := by decide +kernel
theorem dX6_follow_128 : decode cX6_follow 128 = .ok (.iconst 0, 1) := by decide +kernel
theorem dX6_follow_129 : decode cX6_follow 129 = .ok (.istore_n 1, 1) := by decide +kernel
theorem dX6_follow_130 : decode cX6_follow 130 = .ok (.iinc 2 1, 3) := by decide +kernel
theorem dX6_follow_133 : decode cX6_follow 133 = .ok (.goto (-52), 3) := by decide +kernel
theorem dX6_follow_136 : decode cX6_follow 136 = .ok (.iload_n 1, 1) := by decide +kernel
theorem dX6_follow_137 : decode cX6_follow 137 = .ok (.ifCond .eq 14, 3) := by decide +kernel
theorem dX6_follow_140 : decode cX6_follow 140 = .ok (.aload_n 0, 1) := by decide +kernel
theorem dX6_follow_141 : decode cX6_follow 141 = .ok (.getfield 108, 3) := by decide +kernel
theorem dX6_follow_144 : decode cX6_follow 144 = .ok (.ifCond .ne 7, 3) := by decide +kernel
theorem dX6_follow_147 : decode cX6_follow 147 = .ok (.iconst 1, 1) := by decide +kernel
theorem dX6_follow_148 : decode cX6_follow 148 = .ok (.goto 4, 3) := by decide +kernel
theorem dX6_follow_151 : decode cX6_follow 151 = .ok (.iconst 0, 1) := by decide +kernel
theorem dX6_follow_152 : decode cX6_follow 152 = .ok (.istore_n 1, 1) := by decide +kernel
theorem dX6_follow_153 : decode cX6_follow 153 = .ok (.iload_n 1, 1) := by decide +kernel
theorem dX6_follow_154 : decode cX6_follow 154 = .ok (.ifCond .eq (-100), 3) := by decide +kernel
theorem dX6_follow_157 : decode cX6_follow 157 = .ok (.aload_n 0, 1) := by decide +kernel
theorem dX6_follow_158 : decode cX6_follow 158 = .ok (.dup, 1) := by decide +kernel
theorem dX6_follow_159 : decode cX6_follow 159 = .ok (.getfield 153, 3) := by decide +kernel
theorem dX6_follow_162 : decode cX6_follow 162 = .ok (.iconst 1, 1) := by decide +kernel
theorem dX6_follow_163 : decode cX6_follow 163 = .ok (.iadd, 1) := by decide +kernel
theorem dX6_follow_164 : decode cX6_follow 164 = .ok (.putfield 153, 3) := by decide +kernel
theorem dX6_follow_167 : decode cX6_follow 167 = .ok (.iconst 0, 1) := by decide +kernel
theorem dX6_follow_168 : decode cX6_follow 168 = .ok (.istore_n 2, 1) := by decide +kernel
theorem dX6_follow_169 : decode cX6_follow 169 = .ok (.iload_n 2, 1) := by decide +kernel
theorem dX6_follow_170 : decode cX6_follow 170 = .ok (.aload_n 0, 1) := by decide +kernel
theorem dX6_follow_171 : decode cX6_follow 171 = .ok (.getfield 74, 3) := by decide +kernel
theorem dX6_follow_174 : decode cX6_follow 174 = .ok (.if_icmp .ge 52, 3) := by decide +kernel
theorem dX6_follow_177 : decode cX6_follow 177 = .ok (.aload_n 0, 1) := by decide +kernel
theorem dX6_follow_178 : decode cX6_follow 178 = .ok (.getfield 34, 3) := by decide +kernel
theorem dX6_follow_181 : decode cX6_follow 181 = .ok (.iload_n 2, 1) := by decide +kernel
theorem dX6_follow_182 : decode cX6_follow 182 = .ok (.iaload, 1) := by decide +kernel
theorem dX6_follow_183 : decode cX6_follow 183 = .ok (.ifCond .eq 37, 3) := by decide +kernel
theorem dX6_follow_186 : decode cX6_follow 186 = .ok (.aload_n 0, 1) := by decide +kernel
theorem dX6_follow_187 : decode cX6_follow 187 = .ok (.getfield 31, 3) := by decide +kernel
theorem dX6_follow_190 : decode cX6_follow 190 = .ok (.iload_n 2, 1) := by decide +kernel
theorem dX6_follow_191 : decode cX6_follow 191 = .ok (.aload_n 0, 1) := by decide +kernel
theorem dX6_follow_192 : decode cX6_follow 192 = .ok (.getfield 34, 3) := by decide +kernel
theorem dX6_follow_195 : decode cX6_follow 195 = .ok (.iload_n 2, 1) := by decide +kernel
theorem dX6_follow_196 : decode cX6_follow 196 = .ok (.iaload, 1) := by decide +kernel
theorem dX6_follow_197 : decode cX6_follow 197 = .ok (.iastore, 1) := by decide +kernel
theorem dX6_follow_198 : decode cX6_follow 198 = .ok (.aload_n 0, 1) := by decide +kernel
theorem dX6_follow_199 : decode cX6_follow 199 = .ok (.getfield 40, 3) := by decide +kernel
theorem dX6_follow_202 : decode cX6_follow 202 = .ok (.iload_n 2, 1) := by decide +kernel
theorem dX6_follow_203 : decode cX6_follow 203 = .ok (.aload_n 0, 1) := by decide +kernel
theorem dX6_follow_204 : decode cX6_follow 204 = .ok (.getfield 153, 3) := by decide +kernel
theorem dX6_follow_207 : decode cX6_follow 207 = .ok (.iastore, 1) := by decide +kernel
theorem dX6_follow_208 : decode cX6_follow 208 = .ok (.aload_n 0, 1) := by decide +kernel
theorem dX6_follow_209 : decode cX6_follow 209 = .ok (.getfield 43, 3) := by decide +kernel
theorem dX6_follow_212 : decode cX6_follow 212 = .ok (.iload_n 2, 1) := by decide +kernel
theorem dX6_follow_213 : decode cX6_follow 213 = .ok (.aload_n 0, 1) := by decide +kernel
theorem dX6_follow_214 : decode cX6_follow 214 = .ok (.getfield 37, 3) := by decide +kernel
theorem dX6_follow_217 : decode cX6_follow 217 = .ok (.iload_n 2, 1) := by decide +kernel
theorem dX6_follow_218 : decode cX6_follow 218 = .ok (.iaload, 1) := by decide +kernel
theorem dX6_follow_219 : decode cX6_follow 219 = .ok (.iastore, 1) := by decide +kernel
theorem dX6_follow_220 : decode cX6_follow 220 = .ok (.iinc 2 1, 3) := by decide +kernel
theorem dX6_follow_223 : decode cX6_follow 223 = .ok (.goto (-54), 3) := by decide +kernel
theorem dX6_follow_226 : decode cX6_follow 226 = .ok (.goto (-172), 3) := by decide +kernel
theorem dX6_follow_229 : decode cX6_follow 229 = .ok (.return_, 1) := by decide +kernel
theorem dX6_lines_0 : decode cX6_lines 0 = .ok (.aload_n 0, 1) := by decide +kernel
theorem dX6_lines_1 : decode cX6_lines 1 = .ok (.iconst 0, 1) := by decide +kernel
theorem dX6_lines_2 : decode cX6_lines 2 = .ok (.putfield 67, 3) := by decide +kernel
theorem dX6_lines_5 : decode cX6_lines 5 = .ok (.aload_n 0, 1) := by decide +kernel
theorem dX6_lines_6 : decode cX6_lines 6 = .ok (.invokevirtual 150, 3) := by decide +kernel
theorem dX6_lines_9 : decode cX6_lines 9 = .ok (.aload_n 0, 1) := by decide +kernel
theorem dX6_lines_10 : decode cX6_lines 10 = .ok (.iconst 1, 1) := by decide +kernel
theorem dX6_lines_11 : decode cX6_lines 11 = .ok (.invokevirtual 162, 3) := by decide +kernel
theorem dX6_lines_14 : decode cX6_lines 14 = .ok (.ireturn, 1) := by decide +kernel
theorem dX6_ways_0 : decode cX6_ways 0 = .ok (.aload_n 0, 1) := by decide +kernel
theorem dX6_ways_1 : decode cX6_ways 1 = .ok (.iconst 0, 1) := by decide +kernel
theorem dX6_ways_2 : decode cX6_ways 2 = .ok (.putfield 67, 3) := by decide +kernel
theorem dX6_ways_5 : decode cX6_ways 5 = .ok (.aload_n 0, 1) := by decide +kernel
theorem dX6_ways_6 : decode cX6_ways 6 = .ok (.invokevirtual 150, 3) := by decide +kernel
theorem dX6_ways_9 : decode cX6_ways 9 = .ok (.aload_n 0, 1) := by decide +kernel
theorem dX6_ways_10 : decode cX6_ways 10 = .ok (.invokevirtual 121, 3) := by decide +kernel
theorem dX6_ways_13 : decode cX6_ways 13 = .ok (.aload_n 0, 1) := by decide +kernel
theorem dX6_ways_14 : decode cX6_ways 14 = .ok (.invokevirtual 117, 3) := by decide +kernel
theorem dX6_ways_17 : decode cX6_ways 17 = .ok (.ireturn, 1) := by decide +kernel
theorem dX6_broken_0 : decode cX6_broken 0 = .ok (.aload_n 0, 1) := by decide +kernel
theorem dX6_broken_1 : decode cX6_broken 1 = .ok (.iconst 0, 1) := by decide +kernel
theorem dX6_broken_2 : decode cX6_broken 2 = .ok (.putfield 67, 3) := by decide +kernel
theorem dX6_broken_5 : decode cX6_broken 5 = .ok (.aload_n 0, 1) := by decide +kernel
theorem dX6_broken_6 : decode cX6_broken 6 = .ok (.invokevirtual 150, 3) := by decide +kernel
theorem dX6_broken_9 : decode cX6_broken 9 = .ok (.aload_n 0, 1) := by decide +kernel
theorem dX6_broken_10 : decode cX6_broken 10 = .ok (.invokevirtual 156, 3) := by decide +kernel
theorem dX6_broken_13 : decode cX6_broken 13 = .ok (.ireturn, 1) := by decide +kernel
theorem dX6_isAnswer_0 : decode cX6_isAnswer 0 = .ok (.aload_n 0, 1) := by decide +kernel
theorem dX6_isAnswer_1 : decode cX6_isAnswer 1 = .ok (.iconst 0, 1) := by decide +kernel
theorem dX6_isAnswer_2 : decode cX6_isAnswer 2 = .ok (.putfield 67, 3) := by decide +kernel
theorem dX6_isAnswer_5 : decode cX6_isAnswer 5 = .ok (.aload_n 0, 1) := by decide +kernel
theorem dX6_isAnswer_6 : decode cX6_isAnswer 6 = .ok (.invokevirtual 150, 3) := by decide +kernel
theorem dX6_isAnswer_9 : decode cX6_isAnswer 9 = .ok (.aload_n 0, 1) := by decide +kernel
theorem dX6_isAnswer_10 : decode cX6_isAnswer 10 = .ok (.invokevirtual 121, 3) := by decide +kernel
theorem dX6_isAnswer_13 : decode cX6_isAnswer 13 = .ok (.aload_n 0, 1) := by decide +kernel
theorem dX6_isAnswer_14 : decode cX6_isAnswer 14 = .ok (.invokevirtual 138, 3) := by decide +kernel
theorem dX6_isAnswer_17 : decode cX6_isAnswer 17 = .ok (.ifCond .eq 14, 3) := by decide +kernel
theorem dX6_isAnswer_20 : decode cX6_isAnswer 20 = .ok (.aload_n 0, 1) := by decide +kernel
theorem dX6_isAnswer_21 : decode cX6_isAnswer 21 = .ok (.invokevirtual 128, 3) := by decide +kernel
theorem dX6_isAnswer_24 : decode cX6_isAnswer 24 = .ok (.ifCond .eq 7, 3) := by decide +kernel
theorem dX6_isAnswer_27 : decode cX6_isAnswer 27 = .ok (.iconst 1, 1) := by decide +kernel
theorem dX6_isAnswer_28 : decode cX6_isAnswer 28 = .ok (.goto 4, 3) := by decide +kernel
theorem dX6_isAnswer_31 : decode cX6_isAnswer 31 = .ok (.iconst 0, 1) := by decide +kernel
theorem dX6_isAnswer_32 : decode cX6_isAnswer 32 = .ok (.ireturn, 1) := by decide +kernel
theorem dX6_follows_0 : decode cX6_follows 0 = .ok (.aload_n 0, 1) := by decide +kernel
theorem dX6_follows_1 : decode cX6_follows 1 = .ok (.aload_n 0, 1) := by decide +kernel
theorem dX6_follows_2 : decode cX6_follows 2 = .ok (.iload_n 1, 1) := by decide +kernel
theorem dX6_follows_3 : decode cX6_follows 3 = .ok (.invokevirtual 102, 3) := by decide +kernel
theorem dX6_follows_6 : decode cX6_follows 6 = .ok (.invokevirtual 90, 3) := by decide +kernel
theorem dX6_follows_9 : decode cX6_follows 9 = .ok (.ifCond .ne 5, 3) := by decide +kernel
theorem dX6_follows_12 : decode cX6_follows 12 = .ok (.iconst 0, 1) := by decide +kernel
theorem dX6_follows_13 : decode cX6_follows 13 = .ok (.ireturn, 1) := by decide +kernel
theorem dX6_follows_14 : decode cX6_follows 14 = .ok (.aload_n 0, 1) := by decide +kernel
theorem dX6_follows_15 : decode cX6_follows 15 = .ok (.invokevirtual 105, 3) := by decide +kernel
theorem dX6_follows_18 : decode cX6_follows 18 = .ok (.aload_n 0, 1) := by decide +kernel
theorem dX6_follows_19 : decode cX6_follows 19 = .ok (.getfield 31, 3) := by decide +kernel
theorem dX6_follows_22 : decode cX6_follows 22 = .ok (.iload_n 1, 1) := by decide +kernel
theorem dX6_follows_23 : decode cX6_follows 23 = .ok (.iaload, 1) := by decide +kernel
theorem dX6_follows_24 : decode cX6_follows 24 = .ok (.ireturn, 1) := by decide +kernel
theorem dX6_roundOf_0 : decode cX6_roundOf 0 = .ok (.aload_n 0, 1) := by decide +kernel
theorem dX6_roundOf_1 : decode cX6_roundOf 1 = .ok (.aload_n 0, 1) := by decide +kernel
theorem dX6_roundOf_2 : decode cX6_roundOf 2 = .ok (.iload_n 1, 1) := by decide +kernel
theorem dX6_roundOf_3 : decode cX6_roundOf 3 = .ok (.invokevirtual 102, 3) := by decide +kernel
theorem dX6_roundOf_6 : decode cX6_roundOf 6 = .ok (.invokevirtual 90, 3) := by decide +kernel
theorem dX6_roundOf_9 : decode cX6_roundOf 9 = .ok (.ifCond .ne 5, 3) := by decide +kernel
theorem dX6_roundOf_12 : decode cX6_roundOf 12 = .ok (.iconst 0, 1) := by decide +kernel
theorem dX6_roundOf_13 : decode cX6_roundOf 13 = .ok (.ireturn, 1) := by decide +kernel
theorem dX6_roundOf_14 : decode cX6_roundOf 14 = .ok (.aload_n 0, 1) := by decide +kernel
theorem dX6_roundOf_15 : decode cX6_roundOf 15 = .ok (.invokevirtual 105, 3) := by decide +kernel
theorem dX6_roundOf_18 : decode cX6_roundOf 18 = .ok (.aload_n 0, 1) := by decide +kernel
theorem dX6_roundOf_19 : decode cX6_roundOf 19 = .ok (.getfield 40, 3) := by decide +kernel
theorem dX6_roundOf_22 : decode cX6_roundOf 22 = .ok (.iload_n 1, 1) := by decide +kernel
theorem dX6_roundOf_23 : decode cX6_roundOf 23 = .ok (.iaload, 1) := by decide +kernel
theorem dX6_roundOf_24 : decode cX6_roundOf 24 = .ok (.ireturn, 1) := by decide +kernel
theorem dX6_ruleOf_0 : decode cX6_ruleOf 0 = .ok (.aload_n 0, 1) := by decide +kernel
theorem dX6_ruleOf_1 : decode cX6_ruleOf 1 = .ok (.aload_n 0, 1) := by decide +kernel
theorem dX6_ruleOf_2 : decode cX6_ruleOf 2 = .ok (.iload_n 1, 1) := by decide +kernel
theorem dX6_ruleOf_3 : decode cX6_ruleOf 3 = .ok (.invokevirtual 102, 3) := by decide +kernel
theorem dX6_ruleOf_6 : decode cX6_ruleOf 6 = .ok (.invokevirtual 90, 3) := by decide +kernel
theorem dX6_ruleOf_9 : decode cX6_ruleOf 9 = .ok (.ifCond .ne 5, 3) := by decide +kernel
theorem dX6_ruleOf_12 : decode cX6_ruleOf 12 = .ok (.iconst 0, 1) := by decide +kernel
theorem dX6_ruleOf_13 : decode cX6_ruleOf 13 = .ok (.ireturn, 1) := by decide +kernel
theorem dX6_ruleOf_14 : decode cX6_ruleOf 14 = .ok (.aload_n 0, 1) := by decide +kernel
theorem dX6_ruleOf_15 : decode cX6_ruleOf 15 = .ok (.invokevirtual 105, 3) := by decide +kernel
theorem dX6_ruleOf_18 : decode cX6_ruleOf 18 = .ok (.aload_n 0, 1) := by decide +kernel
theorem dX6_ruleOf_19 : decode cX6_ruleOf 19 = .ok (.getfield 43, 3) := by decide +kernel
theorem dX6_ruleOf_22 : decode cX6_ruleOf 22 = .ok (.iload_n 1, 1) := by decide +kernel
theorem dX6_ruleOf_23 : decode cX6_ruleOf 23 = .ok (.iaload, 1) := by decide +kernel
theorem dX6_ruleOf_24 : decode cX6_ruleOf 24 = .ok (.ireturn, 1) := by decide +kernel
theorem dX6_rounds_0 : decode cX6_rounds 0 = .ok (.aload_n 0, 1) := by decide +kernel
theorem dX6_rounds_1 : decode cX6_rounds 1 = .ok (.iconst 0, 1) := by decide +kernel
theorem dX6_rounds_2 : decode cX6_rounds 2 = .ok (.putfield 67, 3) := by decide +kernel
theorem dX6_rounds_5 : decode cX6_rounds 5 = .ok (.aload_n 0, 1) := by decide +kernel
theorem dX6_rounds_6 : decode cX6_rounds 6 = .ok (.invokevirtual 105, 3) := by decide +kernel
theorem dX6_rounds_9 : decode cX6_rounds 9 = .ok (.aload_n 0, 1) := by decide +kernel
theorem dX6_rounds_10 : decode cX6_rounds 10 = .ok (.getfield 153, 3) := by decide +kernel
theorem dX6_rounds_13 : decode cX6_rounds 13 = .ok (.ireturn, 1) := by decide +kernel
theorem dX6_end_0 : decode cX6_end 0 = .ok (.aload_n 0, 1) := by decide +kernel
theorem dX6_end_1 : decode cX6_end 1 = .ok (.iconst 0, 1) := by decide +kernel
theorem dX6_end_2 : decode cX6_end 2 = .ok (.putfield 67, 3) := by decide +kernel
theorem dX6_end_5 : decode cX6_end 5 = .ok (.aload_n 0, 1) := by decide +kernel
theorem dX6_end_6 : decode cX6_end 6 = .ok (.invokevirtual 105, 3) := by decide +kernel
theorem dX6_end_9 : decode cX6_end 9 = .ok (.aload_n 0, 1) := by decide +kernel
theorem dX6_end_10 : decode cX6_end 10 = .ok (.getfield 108, 3) := by decide +kernel
theorem dX6_end_13 : decode cX6_end 13 = .ok (.ireturn, 1) := by decide +kernel
theorem dX6_hint_0 : decode cX6_hint 0 = .ok (.aload_n 0, 1) := by decide +kernel
theorem dX6_hint_1 : decode cX6_hint 1 = .ok (.iconst 0, 1) := by decide +kernel
theorem dX6_hint_2 : decode cX6_hint 2 = .ok (.putfield 67, 3) := by decide +kernel
theorem dX6_hint_5 : decode cX6_hint 5 = .ok (.aload_n 0, 1) := by decide +kernel
theorem dX6_hint_6 : decode cX6_hint 6 = .ok (.invokevirtual 150, 3) := by decide +kernel
theorem dX6_hint_9 : decode cX6_hint 9 = .ok (.aload_n 0, 1) := by decide +kernel
theorem dX6_hint_10 : decode cX6_hint 10 = .ok (.invokevirtual 156, 3) := by decide +kernel
theorem dX6_hint_13 : decode cX6_hint 13 = .ok (.ifCond .eq 5, 3) := by decide +kernel
theorem dX6_hint_16 : decode cX6_hint 16 = .ok (.iconst (-1), 1) := by decide +kernel
theorem dX6_hint_17 : decode cX6_hint 17 = .ok (.ireturn, 1) := by decide +kernel
theorem dX6_hint_18 : decode cX6_hint 18 = .ok (.aload_n 0, 1) := by decide +kernel
theorem dX6_hint_19 : decode cX6_hint 19 = .ok (.invokevirtual 159, 3) := by decide +kernel
theorem dX6_hint_22 : decode cX6_hint 22 = .ok (.iconst 0, 1) := by decide +kernel
theorem dX6_hint_23 : decode cX6_hint 23 = .ok (.istore_n 1, 1) := by decide +kernel
theorem dX6_hint_24 : decode cX6_hint 24 = .ok (.iload_n 1, 1) := by decide +kernel
theorem dX6_hint_25 : decode cX6_hint 25 = .ok (.aload_n 0, 1) := by decide +kernel
theorem dX6_hint_26 : decode cX6_hint 26 = .ok (.getfield 74, 3) := by decide +kernel
theorem dX6_hint_29 : decode cX6_hint 29 = .ok (.if_icmp .ge 20, 3) := by decide +kernel
theorem dX6_hint_32 : decode cX6_hint 32 = .ok (.aload_n 0, 1) := by decide +kernel
theorem dX6_hint_33 : decode cX6_hint 33 = .ok (.getfield 34, 3) := by decide +kernel
theorem dX6_hint_36 : decode cX6_hint 36 = .ok (.iload_n 1, 1) := by decide +kernel
theorem dX6_hint_37 : decode cX6_hint 37 = .ok (.iaload, 1) := by decide +kernel
theorem dX6_hint_38 : decode cX6_hint 38 = .ok (.ifCond .eq 5, 3) := by decide +kernel
theorem dX6_hint_41 : decode cX6_hint 41 = .ok (.iload_n 1, 1) := by decide +kernel
theorem dX6_hint_42 : decode cX6_hint 42 = .ok (.ireturn, 1) := by decide +kernel
theorem dX6_hint_43 : decode cX6_hint 43 = .ok (.iinc 1 1, 3) := by decide +kernel
theorem dX6_hint_46 : decode cX6_hint 46 = .ok (.goto (-22), 3) := by decide +kernel
theorem dX6_hint_49 : decode cX6_hint 49 = .ok (.iconst (-1), 1) := by decide +kernel
theorem dX6_hint_50 : decode cX6_hint 50 = .ok (.ireturn, 1) := by decide +kernel
theorem dX6_has_0 : decode cX6_has 0 = .ok (.lload_n 0, 1) := by decide +kernel
theorem dX6_has_1 : decode cX6_has 1 = .ok (.iload_n 2, 1) := by decide +kernel
theorem dX6_has_2 : decode cX6_has 2 = .ok (.lshr, 1) := by decide +kernel
theorem dX6_has_3 : decode cX6_has 3 = .ok (.lconst 1, 1) := by decide +kernel
theorem dX6_has_4 : decode cX6_has 4 = .ok (.land, 1) := by decide +kernel
theorem dX6_has_5 : decode cX6_has 5 = .ok (.lconst 1, 1) := by decide +kernel
theorem dX6_has_6 : decode cX6_has 6 = .ok (.lcmp, 1) := by decide +kernel
theorem dX6_has_7 : decode cX6_has 7 = .ok (.ifCond .ne 7, 3) := by decide +kernel
theorem dX6_has_10 : decode cX6_has 10 = .ok (.iconst 1, 1) := by decide +kernel
theorem dX6_has_11 : decode cX6_has 11 = .ok (.goto 4, 3) := by decide +kernel
theorem dX6_has_14 : decode cX6_has 14 = .ok (.iconst 0, 1) := by decide +kernel
theorem dX6_has_15 : decode cX6_has 15 = .ok (.ireturn, 1) := by decide +kernel
theorem dX6_border_0 : decode cX6_border 0 = .ok (.lconst 0, 1) := by decide +kernel
theorem dX6_border_1 : decode cX6_border 1 = .ok (.lstore_n 2, 1) := by decide +kernel
theorem dX6_border_2 : decode cX6_border 2 = .ok (.iconst 0, 1) := by decide +kernel
theorem dX6_border_3 : decode cX6_border 3 = .ok (.istore 4, 2) := by decide +kernel
theorem dX6_border_5 : decode cX6_border 5 = .ok (.iconst (-1), 1) := by decide +kernel
theorem dX6_border_6 : decode cX6_border 6 = .ok (.istore 5, 2) := by decide +kernel
theorem dX6_border_8 : decode cX6_border 8 = .ok (.iconst 0, 1) := by decide +kernel
theorem dX6_border_9 : decode cX6_border 9 = .ok (.istore 6, 2) := by decide +kernel
theorem dX6_border_11 : decode cX6_border 11 = .ok (.iload 6, 2) := by decide +kernel
theorem dX6_border_13 : decode cX6_border 13 = .ok (.aload_n 0, 1) := by decide +kernel
theorem dX6_border_14 : decode cX6_border 14 = .ok (.getfield 83, 3) := by decide +kernel
theorem dX6_border_17 : decode cX6_border 17 = .ok (.if_icmp .ge 17, 3) := by decide +kernel
theorem dX6_border_20 : decode cX6_border 20 = .ok (.aload_n 0, 1) := by decide +kernel
theorem dX6_border_21 : decode cX6_border 21 = .ok (.getfield 56, 3) := by decide +kernel
theorem dX6_border_24 : decode cX6_border 24 = .ok (.iload 6, 2) := by decide +kernel
theorem dX6_border_26 : decode cX6_border 26 = .ok (.iconst 0, 1) := by decide +kernel
theorem dX6_border_27 : decode cX6_border 27 = .ok (.iastore, 1) := by decide +kernel
theorem dX6_border_28 : decode cX6_border 28 = .ok (.iinc 6 1, 3) := by decide +kernel
theorem dX6_border_31 : decode cX6_border 31 = .ok (.goto (-20), 3) := by decide +kernel
theorem dX6_border_34 : decode cX6_border 34 = .ok (.iconst 0, 1) := by decide +kernel
theorem dX6_border_35 : decode cX6_border 35 = .ok (.istore 6, 2) := by decide +kernel
theorem dX6_border_37 : decode cX6_border 37 = .ok (.iload 6, 2) := by decide +kernel
theorem dX6_border_39 : decode cX6_border 39 = .ok (.aload_n 0, 1) := by decide +kernel
theorem dX6_border_40 : decode cX6_border 40 = .ok (.getfield 74, 3) := by decide +kernel
theorem dX6_border_43 : decode cX6_border 43 = .ok (.if_icmp .ge 91, 3) := by decide +kernel
theorem dX6_border_46 : decode cX6_border 46 = .ok (.iload_n 1, 1) := by decide +kernel
theorem dX6_border_47 : decode cX6_border 47 = .ok (.aload_n 0, 1) := by decide +kernel
theorem dX6_border_48 : decode cX6_border 48 = .ok (.getfield 16, 3) := by decide +kernel
theorem dX6_border_51 : decode cX6_border 51 = .ok (.iload 6, 2) := by decide +kernel
theorem dX6_border_53 : decode cX6_border 53 = .ok (.iaload, 1) := by decide +kernel
theorem dX6_border_54 : decode cX6_border 54 = .ok (.ishr, 1) := by decide +kernel
theorem dX6_border_55 : decode cX6_border 55 = .ok (.iconst 1, 1) := by decide +kernel
theorem dX6_border_56 : decode cX6_border 56 = .ok (.iand, 1) := by decide +kernel
theorem dX6_border_57 : decode cX6_border 57 = .ok (.iload_n 1, 1) := by decide +kernel
theorem dX6_border_58 : decode cX6_border 58 = .ok (.aload_n 0, 1) := by decide +kernel
theorem dX6_border_59 : decode cX6_border 59 = .ok (.getfield 19, 3) := by decide +kernel
theorem dX6_border_62 : decode cX6_border 62 = .ok (.iload 6, 2) := by decide +kernel
theorem dX6_border_64 : decode cX6_border 64 = .ok (.iaload, 1) := by decide +kernel
theorem dX6_border_65 : decode cX6_border 65 = .ok (.ishr, 1) := by decide +kernel
theorem dX6_border_66 : decode cX6_border 66 = .ok (.iconst 1, 1) := by decide +kernel
theorem dX6_border_67 : decode cX6_border 67 = .ok (.iand, 1) := by decide +kernel
theorem dX6_border_68 : decode cX6_border 68 = .ok (.if_icmp .eq 60, 3) := by decide +kernel
theorem dX6_border_71 : decode cX6_border 71 = .ok (.lload_n 2, 1) := by decide +kernel
theorem dX6_border_72 : decode cX6_border 72 = .ok (.lconst 1, 1) := by decide +kernel
theorem dX6_border_73 : decode cX6_border 73 = .ok (.iload 6, 2) := by decide +kernel
theorem dX6_border_75 : decode cX6_border 75 = .ok (.lshl, 1) := by decide +kernel
theorem dX6_border_76 : decode cX6_border 76 = .ok (.lor, 1) := by decide +kernel
theorem dX6_border_77 : decode cX6_border 77 = .ok (.lstore_n 2, 1) := by decide +kernel
theorem dX6_border_78 : decode cX6_border 78 = .ok (.iinc 4 1, 3) := by decide +kernel
theorem dX6_border_81 : decode cX6_border 81 = .ok (.iload 5, 2) := by decide +kernel
theorem dX6_border_83 : decode cX6_border 83 = .ok (.iconst (-1), 1) := by decide +kernel
theorem dX6_border_84 : decode cX6_border 84 = .ok (.if_icmp .ne 8, 3) := by decide +kernel
theorem dX6_border_87 : decode cX6_border 87 = .ok (.iload 6, 2) := by decide +kernel
theorem dX6_border_89 : decode cX6_border 89 = .ok (.goto 5, 3) := by decide +kernel
theorem dX6_border_92 : decode cX6_border 92 = .ok (.iload 5, 2) := by decide +kernel
theorem dX6_border_94 : decode cX6_border 94 = .ok (.istore 5, 2) := by decide +kernel
theorem dX6_border_96 : decode cX6_border 96 = .ok (.aload_n 0, 1) := by decide +kernel
theorem dX6_border_97 : decode cX6_border 97 = .ok (.getfield 56, 3) := by decide +kernel
theorem dX6_border_100 : decode cX6_border 100 = .ok (.aload_n 0, 1) := by decide +kernel
theorem dX6_border_101 : decode cX6_border 101 = .ok (.getfield 7, 3) := by decide +kernel
theorem dX6_border_104 : decode cX6_border 104 = .ok (.iload 6, 2) := by decide +kernel
theorem dX6_border_106 : decode cX6_border 106 = .ok (.iaload, 1) := by decide +kernel
theorem dX6_border_107 : decode cX6_border 107 = .ok (.dup2, 1) := by decide +kernel
theorem dX6_border_108 : decode cX6_border 108 = .ok (.iaload, 1) := by decide +kernel
theorem dX6_border_109 : decode cX6_border 109 = .ok (.iconst 1, 1) := by decide +kernel
theorem dX6_border_110 : decode cX6_border 110 = .ok (.iadd, 1) := by decide +kernel
theorem dX6_border_111 : decode cX6_border 111 = .ok (.iastore, 1) := by decide +kernel
theorem dX6_border_112 : decode cX6_border 112 = .ok (.aload_n 0, 1) := by decide +kernel
theorem dX6_border_113 : decode cX6_border 113 = .ok (.getfield 56, 3) := by decide +kernel
theorem dX6_border_116 : decode cX6_border 116 = .ok (.aload_n 0, 1) := by decide +kernel
theorem dX6_border_117 : decode cX6_border 117 = .ok (.getfield 13, 3) := by decide +kernel
theorem dX6_border_120 : decode cX6_border 120 = .ok (.iload 6, 2) := by decide +kernel
theorem dX6_border_122 : decode cX6_border 122 = .ok (.iaload, 1) := by decide +kernel
theorem dX6_border_123 : decode cX6_border 123 = .ok (.dup2, 1) := by decide +kernel
theorem dX6_border_124 : decode cX6_border 124 = .ok (.iaload, 1) := by decide +kernel
theorem dX6_border_125 : decode cX6_border 125 = .ok (.iconst 1, 1) := by decide +kernel
theorem dX6_border_126 : decode cX6_border 126 = .ok (.iadd, 1) := by decide +kernel
theorem dX6_border_127 : decode cX6_border 127 = .ok (.iastore, 1) := by decide +kernel
theorem dX6_border_128 : decode cX6_border 128 = .ok (.iinc 6 1, 3) := by decide +kernel
theorem dX6_border_131 : decode cX6_border 131 = .ok (.goto (-94), 3) := by decide +kernel
theorem dX6_border_134 : decode cX6_border 134 = .ok (.iconst 0, 1) := by decide +kernel
theorem dX6_border_135 : decode cX6_border 135 = .ok (.istore 6, 2) := by decide +kernel
theorem dX6_border_137 : decode cX6_border 137 = .ok (.iload 6, 2) := by decide +kernel
theorem dX6_border_139 : decode cX6_border 139 = .ok (.aload_n 0, 1) := by decide +kernel
theorem dX6_border_140 : decode cX6_border 140 = .ok (.getfield 83, 3) := by decide +kernel
theorem dX6_border_143 : decode cX6_border 143 = .ok (.if_icmp .ge 22, 3) := by decide +kernel
theorem dX6_border_146 : decode cX6_border 146 = .ok (.aload_n 0, 1) := by decide +kernel
theorem dX6_border_147 : decode cX6_border 147 = .ok (.getfield 56, 3) := by decide +kernel
theorem dX6_border_150 : decode cX6_border 150 = .ok (.iload 6, 2) := by decide +kernel
theorem dX6_border_152 : decode cX6_border 152 = .ok (.iaload, 1) := by decide +kernel
theorem dX6_border_153 : decode cX6_border 153 = .ok (.iconst 2, 1) := by decide +kernel
theorem dX6_border_154 : decode cX6_border 154 = .ok (.if_icmp .le 5, 3) := by decide +kernel
theorem dX6_border_157 : decode cX6_border 157 = .ok (.lconst 0, 1) := by decide +kernel
theorem dX6_border_158 : decode cX6_border 158 = .ok (.lreturn, 1) := by decide +kernel
theorem dX6_border_159 : decode cX6_border 159 = .ok (.iinc 6 1, 3) := by decide +kernel
theorem dX6_border_162 : decode cX6_border 162 = .ok (.goto (-25), 3) := by decide +kernel
theorem dX6_border_165 : decode cX6_border 165 = .ok (.iconst 1, 1) := by decide +kernel
theorem dX6_border_166 : decode cX6_border 166 = .ok (.istore 6, 2) := by decide +kernel
theorem dX6_border_168 : decode cX6_border 168 = .ok (.iload 5, 2) := by decide +kernel
theorem dX6_border_170 : decode cX6_border 170 = .ok (.istore 7, 2) := by decide +kernel
theorem dX6_border_172 : decode cX6_border 172 = .ok (.aload_n 0, 1) := by decide +kernel
theorem dX6_border_173 : decode cX6_border 173 = .ok (.getfield 13, 3) := by decide +kernel
theorem dX6_border_176 : decode cX6_border 176 = .ok (.iload 5, 2) := by decide +kernel
theorem dX6_border_178 : decode cX6_border 178 = .ok (.iaload, 1) := by decide +kernel
theorem dX6_border_179 : decode cX6_border 179 = .ok (.istore 8, 2) := by decide +kernel
theorem dX6_border_181 : decode cX6_border 181 = .ok (.iload 8, 2) := by decide +kernel
theorem dX6_border_183 : decode cX6_border 183 = .ok (.aload_n 0, 1) := by decide +kernel
theorem dX6_border_184 : decode cX6_border 184 = .ok (.getfield 7, 3) := by decide +kernel
theorem dX6_border_187 : decode cX6_border 187 = .ok (.iload 5, 2) := by decide +kernel
theorem dX6_border_189 : decode cX6_border 189 = .ok (.iaload, 1) := by decide +kernel
theorem dX6_border_190 : decode cX6_border 190 = .ok (.if_icmp .eq 119, 3) := by decide +kernel
theorem dX6_border_193 : decode cX6_border 193 = .ok (.iconst (-1), 1) := by decide +kernel
theorem dX6_border_194 : decode cX6_border 194 = .ok (.istore 9, 2) := by decide +kernel
theorem dX6_border_196 : decode cX6_border 196 = .ok (.iconst 0, 1) := by decide +kernel
theorem dX6_border_197 : decode cX6_border 197 = .ok (.istore 10, 2) := by decide +kernel
theorem dX6_border_199 : decode cX6_border 199 = .ok (.iload 10, 2) := by decide +kernel
theorem dX6_border_201 : decode cX6_border 201 = .ok (.aload_n 0, 1) := by decide +kernel
theorem dX6_border_202 : decode cX6_border 202 = .ok (.getfield 74, 3) := by decide +kernel
theorem dX6_border_205 : decode cX6_border 205 = .ok (.if_icmp .ge 63, 3) := by decide +kernel
theorem dX6_border_208 : decode cX6_border 208 = .ok (.iload 9, 2) := by decide +kernel
theorem dX6_border_210 : decode cX6_border 210 = .ok (.iconst (-1), 1) := by decide +kernel
theorem dX6_border_211 : decode cX6_border 211 = .ok (.if_icmp .ne 57, 3) := by decide +kernel
theorem dX6_border_214 : decode cX6_border 214 = .ok (.iload 10, 2) := by decide +kernel
theorem dX6_border_216 : decode cX6_border 216 = .ok (.iload 7, 2) := by decide +kernel
theorem dX6_border_218 : decode cX6_border 218 = .ok (.if_icmp .eq 41, 3) := by decide +kernel
theorem dX6_border_221 : decode cX6_border 221 = .ok (.lload_n 2, 1) := by decide +kernel
theorem dX6_border_222 : decode cX6_border 222 = .ok (.iload 10, 2) := by decide +kernel
theorem dX6_border_224 : decode cX6_border 224 = .ok (.invokestatic 166, 3) := by decide +kernel
theorem dX6_border_227 : decode cX6_border 227 = .ok (.ifCond .eq 32, 3) := by decide +kernel
theorem dX6_border_230 : decode cX6_border 230 = .ok (.aload_n 0, 1) := by decide +kernel
theorem dX6_border_231 : decode cX6_border 231 = .ok (.getfield 7, 3) := by decide +kernel
theorem dX6_border_234 : decode cX6_border 234 = .ok (.iload 10, 2) := by decide +kernel
theorem dX6_border_236 : decode cX6_border 236 = .ok (.iaload, 1) := by decide +kernel
theorem dX6_border_237 : decode cX6_border 237 = .ok (.iload 8, 2) := by decide +kernel
theorem dX6_border_239 : decode cX6_border 239 = .ok (.if_icmp .eq 15, 3) := by decide +kernel
theorem dX6_border_242 : decode cX6_border 242 = .ok (.aload_n 0, 1) := by decide +kernel
theorem dX6_border_243 : decode cX6_border 243 = .ok (.getfield 13, 3) := by decide +kernel
theorem dX6_border_246 : decode cX6_border 246 = .ok (.iload 10, 2) := by decide +kernel
theorem dX6_border_248 : decode cX6_border 248 = .ok (.iaload, 1) := by decide +kernel
theorem dX6_border_249 : decode cX6_border 249 = .ok (.iload 8, 2) := by decide +kernel
theorem dX6_border_251 : decode cX6_border 251 = .ok (.if_icmp .ne 8, 3) := by decide +kernel
theorem dX6_border_254 : decode cX6_border 254 = .ok (.iload 10, 2) := by decide +kernel
theorem dX6_border_256 : decode cX6_border 256 = .ok (.goto 4, 3) := by decide +kernel
theorem dX6_border_259 : decode cX6_border 259 = .ok (.iconst (-1), 1) := by decide +kernel
theorem dX6_border_260 : decode cX6_border 260 = .ok (.istore 9, 2) := by decide +kernel
theorem dX6_border_262 : decode cX6_border 262 = .ok (.iinc 10 1, 3) := by decide +kernel
theorem dX6_border_265 : decode cX6_border 265 = .ok (.goto (-66), 3) := by decide +kernel
theorem dX6_border_268 : decode cX6_border 268 = .ok (.aload_n 0, 1) := by decide +kernel
theorem dX6_border_269 : decode cX6_border 269 = .ok (.getfield 7, 3) := by decide +kernel
theorem dX6_border_272 : decode cX6_border 272 = .ok (.iload 9, 2) := by decide +kernel
theorem dX6_border_274 : decode cX6_border 274 = .ok (.iaload, 1) := by decide +kernel
theorem dX6_border_275 : decode cX6_border 275 = .ok (.iload 8, 2) := by decide +kernel
theorem dX6_border_277 : decode cX6_border 277 = .ok (.if_icmp .ne 13, 3) := by decide +kernel
theorem dX6_border_280 : decode cX6_border 280 = .ok (.aload_n 0, 1) := by decide +kernel
theorem dX6_border_281 : decode cX6_border 281 = .ok (.getfield 13, 3) := by decide +kernel
theorem dX6_border_284 : decode cX6_border 284 = .ok (.iload 9, 2) := by decide +kernel
theorem dX6_border_286 : decode cX6_border 286 = .ok (.iaload, 1) := by decide +kernel
theorem dX6_border_287 : decode cX6_border 287 = .ok (.goto 10, 3) := by decide +kernel
theorem dX6_border_290 : decode cX6_border 290 = .ok (.aload_n 0, 1) := by decide +kernel
theorem dX6_border_291 : decode cX6_border 291 = .ok (.getfield 7, 3) := by decide +kernel
theorem dX6_border_294 : decode cX6_border 294 = .ok (.iload 9, 2) := by decide +kernel
theorem dX6_border_296 : decode cX6_border 296 = .ok (.iaload, 1) := by decide +kernel
theorem dX6_border_297 : decode cX6_border 297 = .ok (.istore 8, 2) := by decide +kernel
theorem dX6_border_299 : decode cX6_border 299 = .ok (.iload 9, 2) := by decide +kernel
theorem dX6_border_301 : decode cX6_border 301 = .ok (.istore 7, 2) := by decide +kernel
theorem dX6_border_303 : decode cX6_border 303 = .ok (.iinc 6 1, 3) := by decide +kernel
theorem dX6_border_306 : decode cX6_border 306 = .ok (.goto (-125), 3) := by decide +kernel
theorem dX6_border_309 : decode cX6_border 309 = .ok (.iload 6, 2) := by decide +kernel
theorem dX6_border_311 : decode cX6_border 311 = .ok (.iload 4, 2) := by decide +kernel
theorem dX6_border_313 : decode cX6_border 313 = .ok (.if_icmp .ne 7, 3) := by decide +kernel
theorem dX6_border_316 : decode cX6_border 316 = .ok (.lload_n 2, 1) := by decide +kernel
theorem dX6_border_317 : decode cX6_border 317 = .ok (.goto 4, 3) := by decide +kernel
theorem dX6_border_320 : decode cX6_border 320 = .ok (.lconst 0, 1) := by decide +kernel
theorem dX6_border_321 : decode cX6_border 321 = .ok (.lreturn, 1) := by decide +kernel
theorem dX6_isAhead_0 : decode cX6_isAhead 0 = .ok (.lload_n 0, 1) := by decide +kernel
theorem dX6_isAhead_1 : decode cX6_isAhead 1 = .ok (.lload_n 2, 1) := by decide +kernel
theorem dX6_isAhead_2 : decode cX6_isAhead 2 = .ok (.lxor, 1) := by decide +kernel
theorem dX6_isAhead_3 : decode cX6_isAhead 3 = .ok (.lstore 4, 2) := by decide +kernel
theorem dX6_isAhead_5 : decode cX6_isAhead 5 = .ok (.lload_n 0, 1) := by decide +kernel
theorem dX6_isAhead_6 : decode cX6_isAhead 6 = .ok (.lload 4, 2) := by decide +kernel
theorem dX6_isAhead_8 : decode cX6_isAhead 8 = .ok (.land, 1) := by decide +kernel
theorem dX6_isAhead_9 : decode cX6_isAhead 9 = .ok (.lload 4, 2) := by decide +kernel
theorem dX6_isAhead_11 : decode cX6_isAhead 11 = .ok (.lneg, 1) := by decide +kernel
theorem dX6_isAhead_12 : decode cX6_isAhead 12 = .ok (.land, 1) := by decide +kernel
theorem dX6_isAhead_13 : decode cX6_isAhead 13 = .ok (.lconst 0, 1) := by decide +kernel
theorem dX6_isAhead_14 : decode cX6_isAhead 14 = .ok (.lcmp, 1) := by decide +kernel
theorem dX6_isAhead_15 : decode cX6_isAhead 15 = .ok (.ifCond .eq 7, 3) := by decide +kernel
theorem dX6_isAhead_18 : decode cX6_isAhead 18 = .ok (.iconst 1, 1) := by decide +kernel
theorem dX6_isAhead_19 : decode cX6_isAhead 19 = .ok (.goto 4, 3) := by decide +kernel
theorem dX6_isAhead_22 : decode cX6_isAhead 22 = .ok (.iconst 0, 1) := by decide +kernel
theorem dX6_isAhead_23 : decode cX6_isAhead 23 = .ok (.ireturn, 1) := by decide +kernel
theorem dX6_findLoops_0 : decode cX6_findLoops 0 = .ok (.aload_n 0, 1) := by decide +kernel
theorem dX6_findLoops_1 : decode cX6_findLoops 1 = .ok (.getfield 170, 3) := by decide +kernel
theorem dX6_findLoops_4 : decode cX6_findLoops 4 = .ok (.bipush 10, 2) := by decide +kernel
theorem dX6_findLoops_6 : decode cX6_findLoops 6 = .ok (.aload_n 0, 1) := by decide +kernel
theorem dX6_findLoops_7 : decode cX6_findLoops 7 = .ok (.getfield 80, 3) := by decide +kernel
theorem dX6_findLoops_10 : decode cX6_findLoops 10 = .ok (.imul, 1) := by decide +kernel
theorem dX6_findLoops_11 : decode cX6_findLoops 11 = .ok (.aload_n 0, 1) := by decide +kernel
theorem dX6_findLoops_12 : decode cX6_findLoops 12 = .ok (.getfield 77, 3) := by decide +kernel
theorem dX6_findLoops_15 : decode cX6_findLoops 15 = .ok (.iadd, 1) := by decide +kernel
theorem dX6_findLoops_16 : decode cX6_findLoops 16 = .ok (.if_icmp .ne 4, 3) := by decide +kernel
theorem dX6_findLoops_19 : decode cX6_findLoops 19 = .ok (.return_, 1) := by decide +kernel
theorem dX6_findLoops_20 : decode cX6_findLoops 20 = .ok (.aload_n 0, 1) := by decide +kernel
theorem dX6_findLoops_21 : decode cX6_findLoops 21 = .ok (.bipush 10, 2) := by decide +kernel
theorem dX6_findLoops_23 : decode cX6_findLoops 23 = .ok (.aload_n 0, 1) := by decide +kernel
theorem dX6_findLoops_24 : decode cX6_findLoops 24 = .ok (.getfield 80, 3) := by decide +kernel
theorem dX6_findLoops_27 : decode cX6_findLoops 27 = .ok (.imul, 1) := by decide +kernel
theorem dX6_findLoops_28 : decode cX6_findLoops 28 = .ok (.aload_n 0, 1) := by decide +kernel
theorem dX6_findLoops_29 : decode cX6_findLoops 29 = .ok (.getfield 77, 3) := by decide +kernel
theorem dX6_findLoops_32 : decode cX6_findLoops 32 = .ok (.iadd, 1) := by decide +kernel
theorem dX6_findLoops_33 : decode cX6_findLoops 33 = .ok (.putfield 170, 3) := by decide +kernel
theorem dX6_findLoops_36 : decode cX6_findLoops 36 = .ok (.aload_n 0, 1) := by decide +kernel
theorem dX6_findLoops_37 : decode cX6_findLoops 37 = .ok (.iconst 0, 1) := by decide +kernel
theorem dX6_findLoops_38 : decode cX6_findLoops 38 = .ok (.putfield 173, 3) := by decide +kernel
theorem dX6_findLoops_41 : decode cX6_findLoops 41 = .ok (.iconst 1, 1) := by decide +kernel
theorem dX6_findLoops_42 : decode cX6_findLoops 42 = .ok (.istore_n 1, 1) := by decide +kernel
theorem dX6_findLoops_43 : decode cX6_findLoops 43 = .ok (.iload_n 1, 1) := by decide +kernel
theorem dX6_findLoops_44 : decode cX6_findLoops 44 = .ok (.iconst 1, 1) := by decide +kernel
theorem dX6_findLoops_45 : decode cX6_findLoops 45 = .ok (.aload_n 0, 1) := by decide +kernel
theorem dX6_findLoops_46 : decode cX6_findLoops 46 = .ok (.getfield 71, 3) := by decide +kernel
theorem dX6_findLoops_49 : decode cX6_findLoops 49 = .ok (.ishl, 1) := by decide +kernel
theorem dX6_findLoops_50 : decode cX6_findLoops 50 = .ok (.if_icmp .ge 41, 3) := by decide +kernel
theorem dX6_findLoops_53 : decode cX6_findLoops 53 = .ok (.aload_n 0, 1) := by decide +kernel
theorem dX6_findLoops_54 : decode cX6_findLoops 54 = .ok (.iload_n 1, 1) := by decide +kernel
theorem dX6_findLoops_55 : decode cX6_findLoops 55 = .ok (.invokevirtual 176, 3) := by decide +kernel
theorem dX6_findLoops_58 : decode cX6_findLoops 58 = .ok (.lstore_n 2, 1) := by decide +kernel
theorem dX6_findLoops_59 : decode cX6_findLoops 59 = .ok (.lload_n 2, 1) := by decide +kernel
theorem dX6_findLoops_60 : decode cX6_findLoops 60 = .ok (.lconst 0, 1) := by decide +kernel
theorem dX6_findLoops_61 : decode cX6_findLoops 61 = .ok (.lcmp, 1) := by decide +kernel
theorem dX6_findLoops_62 : decode cX6_findLoops 62 = .ok (.ifCond .eq 23, 3) := by decide +kernel
theorem dX6_findLoops_65 : decode cX6_findLoops 65 = .ok (.aload_n 0, 1) := by decide +kernel
theorem dX6_findLoops_66 : decode cX6_findLoops 66 = .ok (.getfield 59, 3) := by decide +kernel
theorem dX6_findLoops_69 : decode cX6_findLoops 69 = .ok (.aload_n 0, 1) := by decide +kernel
theorem dX6_findLoops_70 : decode cX6_findLoops 70 = .ok (.getfield 173, 3) := by decide +kernel
theorem dX6_findLoops_73 : decode cX6_findLoops 73 = .ok (.lload_n 2, 1) := by decide +kernel
theorem dX6_findLoops_74 : decode cX6_findLoops 74 = .ok (.lastore, 1) := by decide +kernel
theorem dX6_findLoops_75 : decode cX6_findLoops 75 = .ok (.aload_n 0, 1) := by decide +kernel
theorem dX6_findLoops_76 : decode cX6_findLoops 76 = .ok (.dup, 1) := by decide +kernel
theorem dX6_findLoops_77 : decode cX6_findLoops 77 = .ok (.getfield 173, 3) := by decide +kernel
theorem dX6_findLoops_80 : decode cX6_findLoops 80 = .ok (.iconst 1, 1) := by decide +kernel
theorem dX6_findLoops_81 : decode cX6_findLoops 81 = .ok (.iadd, 1) := by decide +kernel
theorem dX6_findLoops_82 : decode cX6_findLoops 82 = .ok (.putfield 173, 3) := by decide +kernel
theorem dX6_findLoops_85 : decode cX6_findLoops 85 = .ok (.iinc 1 1, 3) := by decide +kernel
theorem dX6_findLoops_88 : decode cX6_findLoops 88 = .ok (.goto (-45), 3) := by decide +kernel
theorem dX6_findLoops_91 : decode cX6_findLoops 91 = .ok (.aload_n 0, 1) := by decide +kernel
theorem dX6_findLoops_92 : decode cX6_findLoops 92 = .ok (.getfield 173, 3) := by decide +kernel
theorem dX6_findLoops_95 : decode cX6_findLoops 95 = .ok (.iconst 2, 1) := by decide +kernel
theorem dX6_findLoops_96 : decode cX6_findLoops 96 = .ok (.idiv, 1) := by decide +kernel
theorem dX6_findLoops_97 : decode cX6_findLoops 97 = .ok (.istore_n 1, 1) := by decide +kernel
theorem dX6_findLoops_98 : decode cX6_findLoops 98 = .ok (.iload_n 1, 1) := by decide +kernel
theorem dX6_findLoops_99 : decode cX6_findLoops 99 = .ok (.ifCond .le 91, 3) := by decide +kernel
theorem dX6_findLoops_102 : decode cX6_findLoops 102 = .ok (.iload_n 1, 1) := by decide +kernel
theorem dX6_findLoops_103 : decode cX6_findLoops 103 = .ok (.istore_n 2, 1) := by decide +kernel
theorem dX6_findLoops_104 : decode cX6_findLoops 104 = .ok (.iload_n 2, 1) := by decide +kernel
theorem dX6_findLoops_105 : decode cX6_findLoops 105 = .ok (.aload_n 0, 1) := by decide +kernel
theorem dX6_findLoops_106 : decode cX6_findLoops 106 = .ok (.getfield 173, 3) := by decide +kernel
theorem dX6_findLoops_109 : decode cX6_findLoops 109 = .ok (.if_icmp .ge 74, 3) := by decide +kernel
theorem dX6_findLoops_112 : decode cX6_findLoops 112 = .ok (.aload_n 0, 1) := by decide +kernel
theorem dX6_findLoops_113 : decode cX6_findLoops 113 = .ok (.getfield 59, 3) := by decide +kernel
theorem dX6_findLoops_116 : decode cX6_findLoops 116 = .ok (.iload_n 2, 1) := by decide +kernel
theorem dX6_findLoops_117 : decode cX6_findLoops 117 = .ok (.laload, 1) := by decide +kernel
theorem dX6_findLoops_118 : decode cX6_findLoops 118 = .ok (.lstore_n 3, 1) := by decide +kernel
theorem dX6_findLoops_119 : decode cX6_findLoops 119 = .ok (.iload_n 2, 1) := by decide +kernel
theorem dX6_findLoops_120 : decode cX6_findLoops 120 = .ok (.istore 5, 2) := by decide +kernel
theorem dX6_findLoops_122 : decode cX6_findLoops 122 = .ok (.iload 5, 2) := by decide +kernel
theorem dX6_findLoops_124 : decode cX6_findLoops 124 = .ok (.iload_n 1, 1) := by decide +kernel
theorem dX6_findLoops_125 : decode cX6_findLoops 125 = .ok (.if_icmp .lt 44, 3) := by decide +kernel
theorem dX6_findLoops_128 : decode cX6_findLoops 128 = .ok (.lload_n 3, 1) := by decide +kernel
theorem dX6_findLoops_129 : decode cX6_findLoops 129 = .ok (.aload_n 0, 1) := by decide +kernel
theorem dX6_findLoops_130 : decode cX6_findLoops 130 = .ok (.getfield 59, 3) := by decide +kernel
theorem dX6_findLoops_133 : decode cX6_findLoops 133 = .ok (.iload 5, 2) := by decide +kernel
theorem dX6_findLoops_135 : decode cX6_findLoops 135 = .ok (.iload_n 1, 1) := by decide +kernel
theorem dX6_findLoops_136 : decode cX6_findLoops 136 = .ok (.isub, 1) := by decide +kernel
theorem dX6_findLoops_137 : decode cX6_findLoops 137 = .ok (.laload, 1) := by decide +kernel
theorem dX6_findLoops_138 : decode cX6_findLoops 138 = .ok (.invokestatic 180, 3) := by decide +kernel
theorem dX6_findLoops_141 : decode cX6_findLoops 141 = .ok (.ifCond .eq 28, 3) := by decide +kernel
theorem dX6_findLoops_144 : decode cX6_findLoops 144 = .ok (.aload_n 0, 1) := by decide +kernel
theorem dX6_findLoops_145 : decode cX6_findLoops 145 = .ok (.getfield 59, 3) := by decide +kernel
theorem dX6_findLoops_148 : decode cX6_findLoops 148 = .ok (.iload 5, 2) := by decide +kernel
theorem dX6_findLoops_150 : decode cX6_findLoops 150 = .ok (.aload_n 0, 1) := by decide +kernel
theorem dX6_findLoops_151 : decode cX6_findLoops 151 = .ok (.getfield 59, 3) := by decide +kernel
theorem dX6_findLoops_154 : decode cX6_findLoops 154 = .ok (.iload 5, 2) := by decide +kernel
theorem dX6_findLoops_156 : decode cX6_findLoops 156 = .ok (.iload_n 1, 1) := by decide +kernel
theorem dX6_findLoops_157 : decode cX6_findLoops 157 = .ok (.isub, 1) := by decide +kernel
theorem dX6_findLoops_158 : decode cX6_findLoops 158 = .ok (.laload, 1) := by decide +kernel
theorem dX6_findLoops_159 : decode cX6_findLoops 159 = .ok (.lastore, 1) := by decide +kernel
theorem dX6_findLoops_160 : decode cX6_findLoops 160 = .ok (.iload 5, 2) := by decide +kernel
theorem dX6_findLoops_162 : decode cX6_findLoops 162 = .ok (.iload_n 1, 1) := by decide +kernel
theorem dX6_findLoops_163 : decode cX6_findLoops 163 = .ok (.isub, 1) := by decide +kernel
theorem dX6_findLoops_164 : decode cX6_findLoops 164 = .ok (.istore 5, 2) := by decide +kernel
theorem dX6_findLoops_166 : decode cX6_findLoops 166 = .ok (.goto (-44), 3) := by decide +kernel
theorem dX6_findLoops_169 : decode cX6_findLoops 169 = .ok (.aload_n 0, 1) := by decide +kernel
theorem dX6_findLoops_170 : decode cX6_findLoops 170 = .ok (.getfield 59, 3) := by decide +kernel
theorem dX6_findLoops_173 : decode cX6_findLoops 173 = .ok (.iload 5, 2) := by decide +kernel
theorem dX6_findLoops_175 : decode cX6_findLoops 175 = .ok (.lload_n 3, 1) := by decide +kernel
theorem dX6_findLoops_176 : decode cX6_findLoops 176 = .ok (.lastore, 1) := by decide +kernel
theorem dX6_findLoops_177 : decode cX6_findLoops 177 = .ok (.iinc 2 1, 3) := by decide +kernel
theorem dX6_findLoops_180 : decode cX6_findLoops 180 = .ok (.goto (-76), 3) := by decide +kernel
theorem dX6_findLoops_183 : decode cX6_findLoops 183 = .ok (.iload_n 1, 1) := by decide +kernel
theorem dX6_findLoops_184 : decode cX6_findLoops 184 = .ok (.iconst 2, 1) := by decide +kernel
theorem dX6_findLoops_185 : decode cX6_findLoops 185 = .ok (.idiv, 1) := by decide +kernel
theorem dX6_findLoops_186 : decode cX6_findLoops 186 = .ok (.istore_n 1, 1) := by decide +kernel
theorem dX6_findLoops_187 : decode cX6_findLoops 187 = .ok (.goto (-89), 3) := by decide +kernel
theorem dX6_findLoops_190 : decode cX6_findLoops 190 = .ok (.return_, 1) := by decide +kernel
theorem dX6_fits_0 : decode cX6_fits 0 = .ok (.iconst 0, 1) := by decide +kernel
theorem dX6_fits_1 : decode cX6_fits 1 = .ok (.istore 4, 2) := by decide +kernel
theorem dX6_fits_3 : decode cX6_fits 3 = .ok (.iload 4, 2) := by decide +kernel
theorem dX6_fits_5 : decode cX6_fits 5 = .ok (.aload_n 0, 1) := by decide +kernel
theorem dX6_fits_6 : decode cX6_fits 6 = .ok (.getfield 74, 3) := by decide +kernel
theorem dX6_fits_9 : decode cX6_fits 9 = .ok (.if_icmp .ge 46, 3) := by decide +kernel
theorem dX6_fits_12 : decode cX6_fits 12 = .ok (.aload_n 0, 1) := by decide +kernel
theorem dX6_fits_13 : decode cX6_fits 13 = .ok (.getfield 28, 3) := by decide +kernel
theorem dX6_fits_16 : decode cX6_fits 16 = .ok (.iload 4, 2) := by decide +kernel
theorem dX6_fits_18 : decode cX6_fits 18 = .ok (.iaload, 1) := by decide +kernel
theorem dX6_fits_19 : decode cX6_fits 19 = .ok (.ifCond .eq 30, 3) := by decide +kernel
theorem dX6_fits_22 : decode cX6_fits 22 = .ok (.lload_n 1, 1) := by decide +kernel
theorem dX6_fits_23 : decode cX6_fits 23 = .ok (.iload 4, 2) := by decide +kernel
theorem dX6_fits_25 : decode cX6_fits 25 = .ok (.invokestatic 166, 3) := by decide +kernel
theorem dX6_fits_28 : decode cX6_fits 28 = .ok (.aload_n 0, 1) := by decide +kernel
theorem dX6_fits_29 : decode cX6_fits 29 = .ok (.getfield 28, 3) := by decide +kernel
theorem dX6_fits_32 : decode cX6_fits 32 = .ok (.iload 4, 2) := by decide +kernel
theorem dX6_fits_34 : decode cX6_fits 34 = .ok (.iaload, 1) := by decide +kernel
theorem dX6_fits_35 : decode cX6_fits 35 = .ok (.iconst 1, 1) := by decide +kernel
theorem dX6_fits_36 : decode cX6_fits 36 = .ok (.if_icmp .ne 7, 3) := by decide +kernel
theorem dX6_fits_39 : decode cX6_fits 39 = .ok (.iconst 1, 1) := by decide +kernel
theorem dX6_fits_40 : decode cX6_fits 40 = .ok (.goto 4, 3) := by decide +kernel
theorem dX6_fits_43 : decode cX6_fits 43 = .ok (.iconst 0, 1) := by decide +kernel
theorem dX6_fits_44 : decode cX6_fits 44 = .ok (.if_icmp .eq 5, 3) := by decide +kernel
theorem dX6_fits_47 : decode cX6_fits 47 = .ok (.iconst 0, 1) := by decide +kernel
theorem dX6_fits_48 : decode cX6_fits 48 = .ok (.ireturn, 1) := by decide +kernel
theorem dX6_fits_49 : decode cX6_fits 49 = .ok (.iinc 4 1, 3) := by decide +kernel
theorem dX6_fits_52 : decode cX6_fits 52 = .ok (.goto (-49), 3) := by decide +kernel
theorem dX6_fits_55 : decode cX6_fits 55 = .ok (.iconst 0, 1) := by decide +kernel
theorem dX6_fits_56 : decode cX6_fits 56 = .ok (.istore 4, 2) := by decide +kernel
theorem dX6_fits_58 : decode cX6_fits 58 = .ok (.iload 4, 2) := by decide +kernel
theorem dX6_fits_60 : decode cX6_fits 60 = .ok (.aload_n 0, 1) := by decide +kernel
theorem dX6_fits_61 : decode cX6_fits 61 = .ok (.getfield 71, 3) := by decide +kernel
theorem dX6_fits_64 : decode cX6_fits 64 = .ok (.if_icmp .ge 87, 3) := by decide +kernel
theorem dX6_fits_67 : decode cX6_fits 67 = .ok (.iconst 0, 1) := by decide +kernel
theorem dX6_fits_68 : decode cX6_fits 68 = .ok (.istore 5, 2) := by decide +kernel
theorem dX6_fits_70 : decode cX6_fits 70 = .ok (.iconst 0, 1) := by decide +kernel
theorem dX6_fits_71 : decode cX6_fits 71 = .ok (.istore 6, 2) := by decide +kernel
theorem dX6_fits_73 : decode cX6_fits 73 = .ok (.iload 6, 2) := by decide +kernel
theorem dX6_fits_75 : decode cX6_fits 75 = .ok (.iconst 4, 1) := by decide +kernel
theorem dX6_fits_76 : decode cX6_fits 76 = .ok (.if_icmp .ge 38, 3) := by decide +kernel
theorem dX6_fits_79 : decode cX6_fits 79 = .ok (.iload 5, 2) := by decide +kernel
theorem dX6_fits_81 : decode cX6_fits 81 = .ok (.lload_n 1, 1) := by decide +kernel
theorem dX6_fits_82 : decode cX6_fits 82 = .ok (.aload_n 0, 1) := by decide +kernel
theorem dX6_fits_83 : decode cX6_fits 83 = .ok (.getfield 22, 3) := by decide +kernel
theorem dX6_fits_86 : decode cX6_fits 86 = .ok (.iconst 4, 1) := by decide +kernel
theorem dX6_fits_87 : decode cX6_fits 87 = .ok (.iload 4, 2) := by decide +kernel
theorem dX6_fits_89 : decode cX6_fits 89 = .ok (.imul, 1) := by decide +kernel
theorem dX6_fits_90 : decode cX6_fits 90 = .ok (.iload 6, 2) := by decide +kernel
theorem dX6_fits_92 : decode cX6_fits 92 = .ok (.iadd, 1) := by decide +kernel
theorem dX6_fits_93 : decode cX6_fits 93 = .ok (.iaload, 1) := by decide +kernel
theorem dX6_fits_94 : decode cX6_fits 94 = .ok (.invokestatic 166, 3) := by decide +kernel
theorem dX6_fits_97 : decode cX6_fits 97 = .ok (.ifCond .eq 7, 3) := by decide +kernel
theorem dX6_fits_100 : decode cX6_fits 100 = .ok (.iconst 1, 1) := by decide +kernel
theorem dX6_fits_101 : decode cX6_fits 101 = .ok (.goto 4, 3) := by decide +kernel
theorem dX6_fits_104 : decode cX6_fits 104 = .ok (.iconst 0, 1) := by decide +kernel
theorem dX6_fits_105 : decode cX6_fits 105 = .ok (.iadd, 1) := by decide +kernel
theorem dX6_fits_106 : decode cX6_fits 106 = .ok (.istore 5, 2) := by decide +kernel
theorem dX6_fits_108 : decode cX6_fits 108 = .ok (.iinc 6 1, 3) := by decide +kernel
theorem dX6_fits_111 : decode cX6_fits 111 = .ok (.goto (-38), 3) := by decide +kernel
theorem dX6_fits_114 : decode cX6_fits 114 = .ok (.aload_n 0, 1) := by decide +kernel
theorem dX6_fits_115 : decode cX6_fits 115 = .ok (.getfield 25, 3) := by decide +kernel
theorem dX6_fits_118 : decode cX6_fits 118 = .ok (.iload 4, 2) := by decide +kernel
theorem dX6_fits_120 : decode cX6_fits 120 = .ok (.iaload, 1) := by decide +kernel
theorem dX6_fits_121 : decode cX6_fits 121 = .ok (.iconst (-1), 1) := by decide +kernel
theorem dX6_fits_122 : decode cX6_fits 122 = .ok (.if_icmp .eq 23, 3) := by decide +kernel
theorem dX6_fits_125 : decode cX6_fits 125 = .ok (.iload 4, 2) := by decide +kernel
theorem dX6_fits_127 : decode cX6_fits 127 = .ok (.iload_n 3, 1) := by decide +kernel
theorem dX6_fits_128 : decode cX6_fits 128 = .ok (.if_icmp .eq 17, 3) := by decide +kernel
theorem dX6_fits_131 : decode cX6_fits 131 = .ok (.iload 5, 2) := by decide +kernel
theorem dX6_fits_133 : decode cX6_fits 133 = .ok (.aload_n 0, 1) := by decide +kernel
theorem dX6_fits_134 : decode cX6_fits 134 = .ok (.getfield 25, 3) := by decide +kernel
theorem dX6_fits_137 : decode cX6_fits 137 = .ok (.iload 4, 2) := by decide +kernel
theorem dX6_fits_139 : decode cX6_fits 139 = .ok (.iaload, 1) := by decide +kernel
theorem dX6_fits_140 : decode cX6_fits 140 = .ok (.if_icmp .eq 5, 3) := by decide +kernel
theorem dX6_fits_143 : decode cX6_fits 143 = .ok (.iconst 0, 1) := by decide +kernel
theorem dX6_fits_144 : decode cX6_fits 144 = .ok (.ireturn, 1) := by decide +kernel
theorem dX6_fits_145 : decode cX6_fits 145 = .ok (.iinc 4 1, 3) := by decide +kernel
theorem dX6_fits_148 : decode cX6_fits 148 = .ok (.goto (-90), 3) := by decide +kernel
theorem dX6_fits_151 : decode cX6_fits 151 = .ok (.iconst 1, 1) := by decide +kernel
theorem dX6_fits_152 : decode cX6_fits 152 = .ok (.ireturn, 1) := by decide +kernel
theorem dX6_answersWithout_0 : decode cX6_answersWithout 0 = .ok (.aload_n 0, 1) := by decide +kernel
theorem dX6_answersWithout_1 : decode cX6_answersWithout 1 = .ok (.invokevirtual 184, 3) := by decide +kernel
theorem dX6_answersWithout_4 : decode cX6_answersWithout 4 = .ok (.iconst 0, 1) := by decide +kernel
theorem dX6_answersWithout_5 : decode cX6_answersWithout 5 = .ok (.istore_n 2, 1) := by decide +kernel
theorem dX6_answersWithout_6 : decode cX6_answersWithout 6 = .ok (.iconst 0, 1) := by decide +kernel
theorem dX6_answersWithout_7 : decode cX6_answersWithout 7 = .ok (.istore_n 3, 1) := by decide +kernel
theorem dX6_answersWithout_8 : decode cX6_answersWithout 8 = .ok (.iload_n 3, 1) := by decide +kernel
theorem dX6_answersWithout_9 : decode cX6_answersWithout 9 = .ok (.aload_n 0, 1) := by decide +kernel
theorem dX6_answersWithout_10 : decode cX6_answersWithout 10 = .ok (.getfield 173, 3) := by decide +kernel
theorem dX6_answersWithout_13 : decode cX6_answersWithout 13 = .ok (.if_icmp .ge 31, 3) := by decide +kernel
theorem dX6_answersWithout_16 : decode cX6_answersWithout 16 = .ok (.iload_n 2, 1) := by decide +kernel
theorem dX6_answersWithout_17 : decode cX6_answersWithout 17 = .ok (.aload_n 0, 1) := by decide +kernel
theorem dX6_answersWithout_18 : decode cX6_answersWithout 18 = .ok (.aload_n 0, 1) := by decide +kernel
theorem dX6_answersWithout_19 : decode cX6_answersWithout 19 = .ok (.getfield 59, 3) := by decide +kernel
theorem dX6_answersWithout_22 : decode cX6_answersWithout 22 = .ok (.iload_n 3, 1) := by decide +kernel
theorem dX6_answersWithout_23 : decode cX6_answersWithout 23 = .ok (.laload, 1) := by decide +kernel
theorem dX6_answersWithout_24 : decode cX6_answersWithout 24 = .ok (.iload_n 1, 1) := by decide +kernel
theorem dX6_answersWithout_25 : decode cX6_answersWithout 25 = .ok (.invokevirtual 187, 3) := by decide +kernel
theorem dX6_answersWithout_28 : decode cX6_answersWithout 28 = .ok (.ifCond .eq 7, 3) := by decide +kernel
theorem dX6_answersWithout_31 : decode cX6_answersWithout 31 = .ok (.iconst 1, 1) := by decide +kernel
theorem dX6_answersWithout_32 : decode cX6_answersWithout 32 = .ok (.goto 4, 3) := by decide +kernel
theorem dX6_answersWithout_35 : decode cX6_answersWithout 35 = .ok (.iconst 0, 1) := by decide +kernel
theorem dX6_answersWithout_36 : decode cX6_answersWithout 36 = .ok (.iadd, 1) := by decide +kernel
theorem dX6_answersWithout_37 : decode cX6_answersWithout 37 = .ok (.istore_n 2, 1) := by decide +kernel
theorem dX6_answersWithout_38 : decode cX6_answersWithout 38 = .ok (.iinc 3 1, 3) := by decide +kernel
theorem dX6_answersWithout_41 : decode cX6_answersWithout 41 = .ok (.goto (-33), 3) := by decide +kernel
theorem dX6_answersWithout_44 : decode cX6_answersWithout 44 = .ok (.iload_n 2, 1) := by decide +kernel
theorem dX6_answersWithout_45 : decode cX6_answersWithout 45 = .ok (.ireturn, 1) := by decide +kernel
theorem dX6_find_0 : decode cX6_find 0 = .ok (.aload_n 0, 1) := by decide +kernel
theorem dX6_find_1 : decode cX6_find 1 = .ok (.invokevirtual 184, 3) := by decide +kernel
theorem dX6_find_4 : decode cX6_find 4 = .ok (.iload_n 1, 1) := by decide +kernel
theorem dX6_find_5 : decode cX6_find 5 = .ok (.istore_n 2, 1) := by decide +kernel
theorem dX6_find_6 : decode cX6_find 6 = .ok (.iconst 0, 1) := by decide +kernel
theorem dX6_find_7 : decode cX6_find 7 = .ok (.istore_n 3, 1) := by decide +kernel
theorem dX6_find_8 : decode cX6_find 8 = .ok (.iload_n 3, 1) := by decide +kernel
theorem dX6_find_9 : decode cX6_find 9 = .ok (.aload_n 0, 1) := by decide +kernel
theorem dX6_find_10 : decode cX6_find 10 = .ok (.getfield 173, 3) := by decide +kernel
theorem dX6_find_13 : decode cX6_find 13 = .ok (.if_icmp .ge 41, 3) := by decide +kernel
theorem dX6_find_16 : decode cX6_find 16 = .ok (.iload_n 1, 1) := by decide +kernel
theorem dX6_find_17 : decode cX6_find 17 = .ok (.ifCond .lt 37, 3) := by decide +kernel
theorem dX6_find_20 : decode cX6_find 20 = .ok (.aload_n 0, 1) := by decide +kernel
theorem dX6_find_21 : decode cX6_find 21 = .ok (.aload_n 0, 1) := by decide +kernel
theorem dX6_find_22 : decode cX6_find 22 = .ok (.getfield 59, 3) := by decide +kernel
theorem dX6_find_25 : decode cX6_find 25 = .ok (.iload_n 3, 1) := by decide +kernel
theorem dX6_find_26 : decode cX6_find 26 = .ok (.laload, 1) := by decide +kernel
theorem dX6_find_27 : decode cX6_find 27 = .ok (.iconst (-1), 1) := by decide +kernel
theorem dX6_find_28 : decode cX6_find 28 = .ok (.invokevirtual 187, 3) := by decide +kernel
theorem dX6_find_31 : decode cX6_find 31 = .ok (.ifCond .eq 17, 3) := by decide +kernel
theorem dX6_find_34 : decode cX6_find 34 = .ok (.iload_n 2, 1) := by decide +kernel
theorem dX6_find_35 : decode cX6_find 35 = .ok (.ifCond .ne 10, 3) := by decide +kernel
theorem dX6_find_38 : decode cX6_find 38 = .ok (.aload_n 0, 1) := by decide +kernel
theorem dX6_find_39 : decode cX6_find 39 = .ok (.getfield 59, 3) := by decide +kernel
theorem dX6_find_42 : decode cX6_find 42 = .ok (.iload_n 3, 1) := by decide +kernel
theorem dX6_find_43 : decode cX6_find 43 = .ok (.laload, 1) := by decide +kernel
theorem dX6_find_44 : decode cX6_find 44 = .ok (.lreturn, 1) := by decide +kernel
theorem dX6_find_45 : decode cX6_find 45 = .ok (.iinc 2 (-1), 3) := by decide +kernel
theorem dX6_find_48 : decode cX6_find 48 = .ok (.iinc 3 1, 3) := by decide +kernel
theorem dX6_find_51 : decode cX6_find 51 = .ok (.goto (-43), 3) := by decide +kernel
theorem dX6_find_54 : decode cX6_find 54 = .ok (.lconst 0, 1) := by decide +kernel
theorem dX6_find_55 : decode cX6_find 55 = .ok (.lreturn, 1) := by decide +kernel
theorem dX6_answers_0 : decode cX6_answers 0 = .ok (.aload_n 0, 1) := by decide +kernel
theorem dX6_answers_1 : decode cX6_answers 1 = .ok (.iconst 0, 1) := by decide +kernel
theorem dX6_answers_2 : decode cX6_answers 2 = .ok (.putfield 67, 3) := by decide +kernel
theorem dX6_answers_5 : decode cX6_answers 5 = .ok (.aload_n 0, 1) := by decide +kernel
theorem dX6_answers_6 : decode cX6_answers 6 = .ok (.iconst (-1), 1) := by decide +kernel
theorem dX6_answers_7 : decode cX6_answers 7 = .ok (.invokevirtual 190, 3) := by decide +kernel
theorem dX6_answers_10 : decode cX6_answers 10 = .ok (.ireturn, 1) := by decide +kernel
theorem dX6_answer_0 : decode cX6_answer 0 = .ok (.aload_n 0, 1) := by decide +kernel
theorem dX6_answer_1 : decode cX6_answer 1 = .ok (.iload_n 1, 1) := by decide +kernel
theorem dX6_answer_2 : decode cX6_answer 2 = .ok (.invokevirtual 193, 3) := by decide +kernel
theorem dX6_answer_5 : decode cX6_answer 5 = .ok (.lstore_n 2, 1) := by decide +kernel
theorem dX6_answer_6 : decode cX6_answer 6 = .ok (.aload_n 0, 1) := by decide +kernel
theorem dX6_answer_7 : decode cX6_answer 7 = .ok (.lload_n 2, 1) := by decide +kernel
theorem dX6_answer_8 : decode cX6_answer 8 = .ok (.lconst 0, 1) := by decide +kernel
theorem dX6_answer_9 : decode cX6_answer 9 = .ok (.lcmp, 1) := by decide +kernel
theorem dX6_answer_10 : decode cX6_answer 10 = .ok (.ifCond .eq 7, 3) := by decide +kernel
theorem dX6_answer_13 : decode cX6_answer 13 = .ok (.iconst 1, 1) := by decide +kernel
theorem dX6_answer_14 : decode cX6_answer 14 = .ok (.goto 4, 3) := by decide +kernel
theorem dX6_answer_17 : decode cX6_answer 17 = .ok (.iconst 0, 1) := by decide +kernel
theorem dX6_answer_18 : decode cX6_answer 18 = .ok (.invokevirtual 90, 3) := by decide +kernel
theorem dX6_answer_21 : decode cX6_answer 21 = .ok (.ifCond .eq 7, 3) := by decide +kernel
theorem dX6_answer_24 : decode cX6_answer 24 = .ok (.lload_n 2, 1) := by decide +kernel
theorem dX6_answer_25 : decode cX6_answer 25 = .ok (.goto 4, 3) := by decide +kernel
theorem dX6_answer_28 : decode cX6_answer 28 = .ok (.lconst 0, 1) := by decide +kernel
theorem dX6_answer_29 : decode cX6_answer 29 = .ok (.lreturn, 1) := by decide +kernel
theorem dX6_isInside_0 : decode cX6_isInside 0 = .ok (.aload_n 0, 1) := by decide +kernel
theorem dX6_isInside_1 : decode cX6_isInside 1 = .ok (.iload_n 1, 1) := by decide +kernel
theorem dX6_isInside_2 : decode cX6_isInside 2 = .ok (.invokevirtual 193, 3) := by decide +kernel
theorem dX6_isInside_5 : decode cX6_isInside 5 = .ok (.lstore_n 3, 1) := by decide +kernel
theorem dX6_isInside_6 : decode cX6_isInside 6 = .ok (.aload_n 0, 1) := by decide +kernel
theorem dX6_isInside_7 : decode cX6_isInside 7 = .ok (.lload_n 3, 1) := by decide +kernel
theorem dX6_isInside_8 : decode cX6_isInside 8 = .ok (.lconst 0, 1) := by decide +kernel
theorem dX6_isInside_9 : decode cX6_isInside 9 = .ok (.lcmp, 1) := by decide +kernel
theorem dX6_isInside_10 : decode cX6_isInside 10 = .ok (.ifCond .eq 15, 3) := by decide +kernel
theorem dX6_isInside_13 : decode cX6_isInside 13 = .ok (.aload_n 0, 1) := by decide +kernel
theorem dX6_isInside_14 : decode cX6_isInside 14 = .ok (.iload_n 2, 1) := by decide +kernel
theorem dX6_isInside_15 : decode cX6_isInside 15 = .ok (.invokevirtual 94, 3) := by decide +kernel
theorem dX6_isInside_18 : decode cX6_isInside 18 = .ok (.ifCond .eq 7, 3) := by decide +kernel
theorem dX6_isInside_21 : decode cX6_isInside 21 = .ok (.iconst 1, 1) := by decide +kernel
theorem dX6_isInside_22 : decode cX6_isInside 22 = .ok (.goto 4, 3) := by decide +kernel
theorem dX6_isInside_25 : decode cX6_isInside 25 = .ok (.iconst 0, 1) := by decide +kernel
theorem dX6_isInside_26 : decode cX6_isInside 26 = .ok (.invokevirtual 90, 3) := by decide +kernel
theorem dX6_isInside_29 : decode cX6_isInside 29 = .ok (.ifCond .ne 5, 3) := by decide +kernel
theorem dX6_isInside_32 : decode cX6_isInside 32 = .ok (.iconst 0, 1) := by decide +kernel
theorem dX6_isInside_33 : decode cX6_isInside 33 = .ok (.ireturn, 1) := by decide +kernel
theorem dX6_isInside_34 : decode cX6_isInside 34 = .ok (.iconst 0, 1) := by decide +kernel
theorem dX6_isInside_35 : decode cX6_isInside 35 = .ok (.istore 5, 2) := by decide +kernel
theorem dX6_isInside_37 : decode cX6_isInside 37 = .ok (.iload_n 2, 1) := by decide +kernel
theorem dX6_isInside_38 : decode cX6_isInside 38 = .ok (.aload_n 0, 1) := by decide +kernel
theorem dX6_isInside_39 : decode cX6_isInside 39 = .ok (.getfield 80, 3) := by decide +kernel
theorem dX6_isInside_42 : decode cX6_isInside 42 = .ok (.idiv, 1) := by decide +kernel
theorem dX6_isInside_43 : decode cX6_isInside 43 = .ok (.aload_n 0, 1) := by decide +kernel
theorem dX6_isInside_44 : decode cX6_isInside 44 = .ok (.getfield 80, 3) := by decide +kernel
theorem dX6_isInside_47 : decode cX6_isInside 47 = .ok (.imul, 1) := by decide +kernel
theorem dX6_isInside_48 : decode cX6_isInside 48 = .ok (.istore 6, 2) := by decide +kernel
theorem dX6_isInside_50 : decode cX6_isInside 50 = .ok (.iload 6, 2) := by decide +kernel
theorem dX6_isInside_52 : decode cX6_isInside 52 = .ok (.iload_n 2, 1) := by decide +kernel
theorem dX6_isInside_53 : decode cX6_isInside 53 = .ok (.if_icmp .gt 36, 3) := by decide +kernel
theorem dX6_isInside_56 : decode cX6_isInside 56 = .ok (.iload 5, 2) := by decide +kernel
theorem dX6_isInside_58 : decode cX6_isInside 58 = .ok (.lload_n 3, 1) := by decide +kernel
theorem dX6_isInside_59 : decode cX6_isInside 59 = .ok (.aload_n 0, 1) := by decide +kernel
theorem dX6_isInside_60 : decode cX6_isInside 60 = .ok (.getfield 22, 3) := by decide +kernel
theorem dX6_isInside_63 : decode cX6_isInside 63 = .ok (.iconst 4, 1) := by decide +kernel
theorem dX6_isInside_64 : decode cX6_isInside 64 = .ok (.iload 6, 2) := by decide +kernel
theorem dX6_isInside_66 : decode cX6_isInside 66 = .ok (.imul, 1) := by decide +kernel
theorem dX6_isInside_67 : decode cX6_isInside 67 = .ok (.iconst 2, 1) := by decide +kernel
theorem dX6_isInside_68 : decode cX6_isInside 68 = .ok (.iadd, 1) := by decide +kernel
theorem dX6_isInside_69 : decode cX6_isInside 69 = .ok (.iaload, 1) := by decide +kernel
theorem dX6_isInside_70 : decode cX6_isInside 70 = .ok (.invokestatic 166, 3) := by decide +kernel
theorem dX6_isInside_73 : decode cX6_isInside 73 = .ok (.if_icmp .eq 7, 3) := by decide +kernel
theorem dX6_isInside_76 : decode cX6_isInside 76 = .ok (.iconst 1, 1) := by decide +kernel
theorem dX6_isInside_77 : decode cX6_isInside 77 = .ok (.goto 4, 3) := by decide +kernel
theorem dX6_isInside_80 : decode cX6_isInside 80 = .ok (.iconst 0, 1) := by decide +kernel
theorem dX6_isInside_81 : decode cX6_isInside 81 = .ok (.istore 5, 2) := by decide +kernel
theorem dX6_isInside_83 : decode cX6_isInside 83 = .ok (.iinc 6 1, 3) := by decide +kernel
theorem dX6_isInside_86 : decode cX6_isInside 86 = .ok (.goto (-36), 3) := by decide +kernel
theorem dX6_isInside_89 : decode cX6_isInside 89 = .ok (.iload 5, 2) := by decide +kernel
theorem dX6_isInside_91 : decode cX6_isInside 91 = .ok (.ireturn, 1) := by decide +kernel
theorem dX6_having_0 : decode cX6_having 0 = .ok (.iconst 0, 1) := by decide +kernel
theorem dX6_having_1 : decode cX6_having 1 = .ok (.istore_n 2, 1) := by decide +kernel
theorem dX6_having_2 : decode cX6_having 2 = .ok (.iconst 0, 1) := by decide +kernel
theorem dX6_having_3 : decode cX6_having 3 = .ok (.istore_n 3, 1) := by decide +kernel
theorem dX6_having_4 : decode cX6_having 4 = .ok (.iload_n 3, 1) := by decide +kernel
theorem dX6_having_5 : decode cX6_having 5 = .ok (.aload_n 0, 1) := by decide +kernel
theorem dX6_having_6 : decode cX6_having 6 = .ok (.getfield 173, 3) := by decide +kernel
theorem dX6_having_9 : decode cX6_having 9 = .ok (.if_icmp .ge 44, 3) := by decide +kernel
theorem dX6_having_12 : decode cX6_having 12 = .ok (.iload_n 2, 1) := by decide +kernel
theorem dX6_having_13 : decode cX6_having 13 = .ok (.aload_n 0, 1) := by decide +kernel
theorem dX6_having_14 : decode cX6_having 14 = .ok (.getfield 59, 3) := by decide +kernel
theorem dX6_having_17 : decode cX6_having 17 = .ok (.iload_n 3, 1) := by decide +kernel
theorem dX6_having_18 : decode cX6_having 18 = .ok (.laload, 1) := by decide +kernel
theorem dX6_having_19 : decode cX6_having 19 = .ok (.iload_n 1, 1) := by decide +kernel
theorem dX6_having_20 : decode cX6_having 20 = .ok (.invokestatic 166, 3) := by decide +kernel
theorem dX6_having_23 : decode cX6_having 23 = .ok (.ifCond .eq 21, 3) := by decide +kernel
theorem dX6_having_26 : decode cX6_having 26 = .ok (.aload_n 0, 1) := by decide +kernel
theorem dX6_having_27 : decode cX6_having 27 = .ok (.aload_n 0, 1) := by decide +kernel
theorem dX6_having_28 : decode cX6_having 28 = .ok (.getfield 59, 3) := by decide +kernel
theorem dX6_having_31 : decode cX6_having 31 = .ok (.iload_n 3, 1) := by decide +kernel
theorem dX6_having_32 : decode cX6_having 32 = .ok (.laload, 1) := by decide +kernel
theorem dX6_having_33 : decode cX6_having 33 = .ok (.iconst (-1), 1) := by decide +kernel
theorem dX6_having_34 : decode cX6_having 34 = .ok (.invokevirtual 187, 3) := by decide +kernel
theorem dX6_having_37 : decode cX6_having 37 = .ok (.ifCond .eq 7, 3) := by decide +kernel
theorem dX6_having_40 : decode cX6_having 40 = .ok (.iconst 1, 1) := by decide +kernel
theorem dX6_having_41 : decode cX6_having 41 = .ok (.goto 4, 3) := by decide +kernel
theorem dX6_having_44 : decode cX6_having 44 = .ok (.iconst 0, 1) := by decide +kernel
theorem dX6_having_45 : decode cX6_having 45 = .ok (.iadd, 1) := by decide +kernel
theorem dX6_having_46 : decode cX6_having 46 = .ok (.istore_n 2, 1) := by decide +kernel
theorem dX6_having_47 : decode cX6_having 47 = .ok (.iinc 3 1, 3) := by decide +kernel
theorem dX6_having_50 : decode cX6_having 50 = .ok (.goto (-46), 3) := by decide +kernel
theorem dX6_having_53 : decode cX6_having 53 = .ok (.iload_n 2, 1) := by decide +kernel
theorem dX6_having_54 : decode cX6_having 54 = .ok (.ireturn, 1) := by decide +kernel
theorem dX6_proved_0 : decode cX6_proved 0 = .ok (.aload_n 0, 1) := by decide +kernel
theorem dX6_proved_1 : decode cX6_proved 1 = .ok (.iconst (-1), 1) := by decide +kernel
theorem dX6_proved_2 : decode cX6_proved 2 = .ok (.invokevirtual 190, 3) := by decide +kernel
theorem dX6_proved_5 : decode cX6_proved 5 = .ok (.istore_n 2, 1) := by decide +kernel
theorem dX6_proved_6 : decode cX6_proved 6 = .ok (.aload_n 0, 1) := by decide +kernel
theorem dX6_proved_7 : decode cX6_proved 7 = .ok (.aload_n 0, 1) := by decide +kernel
theorem dX6_proved_8 : decode cX6_proved 8 = .ok (.iload_n 1, 1) := by decide +kernel
theorem dX6_proved_9 : decode cX6_proved 9 = .ok (.invokevirtual 102, 3) := by decide +kernel
theorem dX6_proved_12 : decode cX6_proved 12 = .ok (.iload_n 2, 1) := by decide +kernel
theorem dX6_proved_13 : decode cX6_proved 13 = .ok (.ifCond .le 7, 3) := by decide +kernel
theorem dX6_proved_16 : decode cX6_proved 16 = .ok (.iconst 1, 1) := by decide +kernel
theorem dX6_proved_17 : decode cX6_proved 17 = .ok (.goto 4, 3) := by decide +kernel
theorem dX6_proved_20 : decode cX6_proved 20 = .ok (.iconst 0, 1) := by decide +kernel
theorem dX6_proved_21 : decode cX6_proved 21 = .ok (.invokevirtual 98, 3) := by decide +kernel
theorem dX6_proved_24 : decode cX6_proved 24 = .ok (.ifCond .ne 5, 3) := by decide +kernel
theorem dX6_proved_27 : decode cX6_proved 27 = .ok (.iconst 0, 1) := by decide +kernel
theorem dX6_proved_28 : decode cX6_proved 28 = .ok (.ireturn, 1) := by decide +kernel
theorem dX6_proved_29 : decode cX6_proved 29 = .ok (.aload_n 0, 1) := by decide +kernel
theorem dX6_proved_30 : decode cX6_proved 30 = .ok (.iload_n 1, 1) := by decide +kernel
theorem dX6_proved_31 : decode cX6_proved 31 = .ok (.invokevirtual 196, 3) := by decide +kernel
theorem dX6_proved_34 : decode cX6_proved 34 = .ok (.istore_n 3, 1) := by decide +kernel
theorem dX6_proved_35 : decode cX6_proved 35 = .ok (.iload_n 3, 1) := by decide +kernel
theorem dX6_proved_36 : decode cX6_proved 36 = .ok (.iload_n 2, 1) := by decide +kernel
theorem dX6_proved_37 : decode cX6_proved 37 = .ok (.if_icmp .ne 7, 3) := by decide +kernel
theorem dX6_proved_40 : decode cX6_proved 40 = .ok (.iconst 1, 1) := by decide +kernel
theorem dX6_proved_41 : decode cX6_proved 41 = .ok (.goto 12, 3) := by decide +kernel
theorem dX6_proved_44 : decode cX6_proved 44 = .ok (.iload_n 3, 1) := by decide +kernel
theorem dX6_proved_45 : decode cX6_proved 45 = .ok (.ifCond .ne 7, 3) := by decide +kernel
theorem dX6_proved_48 : decode cX6_proved 48 = .ok (.iconst 2, 1) := by decide +kernel
theorem dX6_proved_49 : decode cX6_proved 49 = .ok (.goto 4, 3) := by decide +kernel
theorem dX6_proved_52 : decode cX6_proved 52 = .ok (.iconst 0, 1) := by decide +kernel
theorem dX6_proved_53 : decode cX6_proved 53 = .ok (.ireturn, 1) := by decide +kernel
theorem dX6_beyondRules_0 : decode cX6_beyondRules 0 = .ok (.aload_n 0, 1) := by decide +kernel
theorem dX6_beyondRules_1 : decode cX6_beyondRules 1 = .ok (.iconst (-1), 1) := by decide +kernel
theorem dX6_beyondRules_2 : decode cX6_beyondRules 2 = .ok (.invokevirtual 190, 3) := by decide +kernel
theorem dX6_beyondRules_5 : decode cX6_beyondRules 5 = .ok (.istore_n 1, 1) := by decide +kernel
theorem dX6_beyondRules_6 : decode cX6_beyondRules 6 = .ok (.aload_n 0, 1) := by decide +kernel
theorem dX6_beyondRules_7 : decode cX6_beyondRules 7 = .ok (.iload_n 1, 1) := by decide +kernel
theorem dX6_beyondRules_8 : decode cX6_beyondRules 8 = .ok (.ifCond .le 7, 3) := by decide +kernel
theorem dX6_beyondRules_11 : decode cX6_beyondRules 11 = .ok (.iconst 1, 1) := by decide +kernel
theorem dX6_beyondRules_12 : decode cX6_beyondRules 12 = .ok (.goto 4, 3) := by decide +kernel
theorem dX6_beyondRules_15 : decode cX6_beyondRules 15 = .ok (.iconst 0, 1) := by decide +kernel
theorem dX6_beyondRules_16 : decode cX6_beyondRules 16 = .ok (.invokevirtual 90, 3) := by decide +kernel
theorem dX6_beyondRules_19 : decode cX6_beyondRules 19 = .ok (.ifCond .ne 5, 3) := by decide +kernel
theorem dX6_beyondRules_22 : decode cX6_beyondRules 22 = .ok (.iconst 0, 1) := by decide +kernel
theorem dX6_beyondRules_23 : decode cX6_beyondRules 23 = .ok (.ireturn, 1) := by decide +kernel
theorem dX6_beyondRules_24 : decode cX6_beyondRules 24 = .ok (.aload_n 0, 1) := by decide +kernel
theorem dX6_beyondRules_25 : decode cX6_beyondRules 25 = .ok (.invokevirtual 105, 3) := by decide +kernel
theorem dX6_beyondRules_28 : decode cX6_beyondRules 28 = .ok (.iconst 0, 1) := by decide +kernel
theorem dX6_beyondRules_29 : decode cX6_beyondRules 29 = .ok (.istore_n 2, 1) := by decide +kernel
theorem dX6_beyondRules_30 : decode cX6_beyondRules 30 = .ok (.iconst 0, 1) := by decide +kernel
theorem dX6_beyondRules_31 : decode cX6_beyondRules 31 = .ok (.istore_n 3, 1) := by decide +kernel
theorem dX6_beyondRules_32 : decode cX6_beyondRules 32 = .ok (.iload_n 3, 1) := by decide +kernel
theorem dX6_beyondRules_33 : decode cX6_beyondRules 33 = .ok (.aload_n 0, 1) := by decide +kernel
theorem dX6_beyondRules_34 : decode cX6_beyondRules 34 = .ok (.getfield 74, 3) := by decide +kernel
theorem dX6_beyondRules_37 : decode cX6_beyondRules 37 = .ok (.if_icmp .ge 57, 3) := by decide +kernel
theorem dX6_beyondRules_40 : decode cX6_beyondRules 40 = .ok (.aload_n 0, 1) := by decide +kernel
theorem dX6_beyondRules_41 : decode cX6_beyondRules 41 = .ok (.getfield 31, 3) := by decide +kernel
theorem dX6_beyondRules_44 : decode cX6_beyondRules 44 = .ok (.iload_n 3, 1) := by decide +kernel
theorem dX6_beyondRules_45 : decode cX6_beyondRules 45 = .ok (.iaload, 1) := by decide +kernel
theorem dX6_beyondRules_46 : decode cX6_beyondRules 46 = .ok (.ifCond .ne 11, 3) := by decide +kernel
theorem dX6_beyondRules_49 : decode cX6_beyondRules 49 = .ok (.aload_n 0, 1) := by decide +kernel
theorem dX6_beyondRules_50 : decode cX6_beyondRules 50 = .ok (.iload_n 3, 1) := by decide +kernel
theorem dX6_beyondRules_51 : decode cX6_beyondRules 51 = .ok (.invokevirtual 196, 3) := by decide +kernel
theorem dX6_beyondRules_54 : decode cX6_beyondRules 54 = .ok (.goto 4, 3) := by decide +kernel
theorem dX6_beyondRules_57 : decode cX6_beyondRules 57 = .ok (.iconst 1, 1) := by decide +kernel
theorem dX6_beyondRules_58 : decode cX6_beyondRules 58 = .ok (.istore 4, 2) := by decide +kernel
theorem dX6_beyondRules_60 : decode cX6_beyondRules 60 = .ok (.iload_n 2, 1) := by decide +kernel
theorem dX6_beyondRules_61 : decode cX6_beyondRules 61 = .ok (.aload_n 0, 1) := by decide +kernel
theorem dX6_beyondRules_62 : decode cX6_beyondRules 62 = .ok (.getfield 31, 3) := by decide +kernel
theorem dX6_beyondRules_65 : decode cX6_beyondRules 65 = .ok (.iload_n 3, 1) := by decide +kernel
theorem dX6_beyondRules_66 : decode cX6_beyondRules 66 = .ok (.iaload, 1) := by decide +kernel
theorem dX6_beyondRules_67 : decode cX6_beyondRules 67 = .ok (.ifCond .ne 18, 3) := by decide +kernel
theorem dX6_beyondRules_70 : decode cX6_beyondRules 70 = .ok (.iload 4, 2) := by decide +kernel
theorem dX6_beyondRules_72 : decode cX6_beyondRules 72 = .ok (.iload_n 1, 1) := by decide +kernel
theorem dX6_beyondRules_73 : decode cX6_beyondRules 73 = .ok (.if_icmp .eq 8, 3) := by decide +kernel
theorem dX6_beyondRules_76 : decode cX6_beyondRules 76 = .ok (.iload 4, 2) := by decide +kernel
theorem dX6_beyondRules_78 : decode cX6_beyondRules 78 = .ok (.ifCond .ne 7, 3) := by decide +kernel
theorem dX6_beyondRules_81 : decode cX6_beyondRules 81 = .ok (.iconst 1, 1) := by decide +kernel
theorem dX6_beyondRules_82 : decode cX6_beyondRules 82 = .ok (.goto 4, 3) := by decide +kernel
theorem dX6_beyondRules_85 : decode cX6_beyondRules 85 = .ok (.iconst 0, 1) := by decide +kernel
theorem dX6_beyondRules_86 : decode cX6_beyondRules 86 = .ok (.iadd, 1) := by decide +kernel
theorem dX6_beyondRules_87 : decode cX6_beyondRules 87 = .ok (.istore_n 2, 1) := by decide +kernel
theorem dX6_beyondRules_88 : decode cX6_beyondRules 88 = .ok (.iinc 3 1, 3) := by decide +kernel
theorem dX6_beyondRules_91 : decode cX6_beyondRules 91 = .ok (.goto (-59), 3) := by decide +kernel
theorem dX6_beyondRules_94 : decode cX6_beyondRules 94 = .ok (.iload_n 2, 1) := by decide +kernel
theorem dX6_beyondRules_95 : decode cX6_beyondRules 95 = .ok (.ireturn, 1) := by decide +kernel
theorem dX6_isNeeded_0 : decode cX6_isNeeded 0 = .ok (.aload_n 0, 1) := by decide +kernel
theorem dX6_isNeeded_1 : decode cX6_isNeeded 1 = .ok (.aload_n 0, 1) := by decide +kernel
theorem dX6_isNeeded_2 : decode cX6_isNeeded 2 = .ok (.iload_n 1, 1) := by decide +kernel
theorem dX6_isNeeded_3 : decode cX6_isNeeded 3 = .ok (.invokevirtual 94, 3) := by decide +kernel
theorem dX6_isNeeded_6 : decode cX6_isNeeded 6 = .ok (.invokevirtual 90, 3) := by decide +kernel
theorem dX6_isNeeded_9 : decode cX6_isNeeded 9 = .ok (.ifCond .eq 30, 3) := by decide +kernel
theorem dX6_isNeeded_12 : decode cX6_isNeeded 12 = .ok (.aload_n 0, 1) := by decide +kernel
theorem dX6_isNeeded_13 : decode cX6_isNeeded 13 = .ok (.getfield 25, 3) := by decide +kernel
theorem dX6_isNeeded_16 : decode cX6_isNeeded 16 = .ok (.iload_n 1, 1) := by decide +kernel
theorem dX6_isNeeded_17 : decode cX6_isNeeded 17 = .ok (.iaload, 1) := by decide +kernel
theorem dX6_isNeeded_18 : decode cX6_isNeeded 18 = .ok (.iconst (-1), 1) := by decide +kernel
theorem dX6_isNeeded_19 : decode cX6_isNeeded 19 = .ok (.if_icmp .eq 20, 3) := by decide +kernel
theorem dX6_isNeeded_22 : decode cX6_isNeeded 22 = .ok (.aload_n 0, 1) := by decide +kernel
theorem dX6_isNeeded_23 : decode cX6_isNeeded 23 = .ok (.iload_n 1, 1) := by decide +kernel
theorem dX6_isNeeded_24 : decode cX6_isNeeded 24 = .ok (.invokevirtual 190, 3) := by decide +kernel
theorem dX6_isNeeded_27 : decode cX6_isNeeded 27 = .ok (.aload_n 0, 1) := by decide +kernel
theorem dX6_isNeeded_28 : decode cX6_isNeeded 28 = .ok (.iconst (-1), 1) := by decide +kernel
theorem dX6_isNeeded_29 : decode cX6_isNeeded 29 = .ok (.invokevirtual 190, 3) := by decide +kernel
theorem dX6_isNeeded_32 : decode cX6_isNeeded 32 = .ok (.if_icmp .le 7, 3) := by decide +kernel
theorem dX6_isNeeded_35 : decode cX6_isNeeded 35 = .ok (.iconst 1, 1) := by decide +kernel
theorem dX6_isNeeded_36 : decode cX6_isNeeded 36 = .ok (.goto 4, 3) := by decide +kernel
theorem dX6_isNeeded_39 : decode cX6_isNeeded 39 = .ok (.iconst 0, 1) := by decide +kernel
theorem dX6_isNeeded_40 : decode cX6_isNeeded 40 = .ok (.ireturn, 1) := by decide +kernel
end
section
theorem dL_lay_0 : decode cL_lay 0 = .ok (.aload_n 0, 1) := by decide +kernel
theorem dL_lay_1 : decode cL_lay 1 = .ok (.iload_n 1, 1) := by decide +kernel
theorem dL_lay_2 : decode cL_lay 2 = .ok (.iload_n 2, 1) := by decide +kernel
theorem dL_lay_3 : decode cL_lay 3 = .ok (.invokevirtual 7, 3) := by decide +kernel
theorem dL_lay_6 : decode cL_lay 6 = .ok (.goto 6, 3) := by decide +kernel
theorem dL_lay_9 : decode cL_lay 9 = .ok (.astore_n 3, 1) := by decide +kernel
theorem dL_lay_10 : decode cL_lay 10 = .ok (.iconst 1, 1) := by decide +kernel
theorem dL_lay_11 : decode cL_lay 11 = .ok (.ireturn, 1) := by decide +kernel
theorem dL_lay_12 : decode cL_lay 12 = .ok (.iconst 0, 1) := by decide +kernel
theorem dL_lay_13 : decode cL_lay 13 = .ok (.ireturn, 1) := by decide +kernel
theorem dL_number_0 : decode cL_number 0 = .ok (.aload_n 3, 1) := by decide +kernel
theorem dL_number_1 : decode cL_number 1 = .ok (.iconst 0, 1) := by decide +kernel
theorem dL_number_2 : decode cL_number 2 = .ok (.aload_n 0, 1) := by decide +kernel
theorem dL_number_3 : decode cL_number 3 = .ok (.iload_n 1, 1) := by decide +kernel
theorem dL_number_4 : decode cL_number 4 = .ok (.iload_n 2, 1) := by decide +kernel
theorem dL_number_5 : decode cL_number 5 = .ok (.invokevirtual 15, 3) := by decide +kernel
theorem dL_number_8 : decode cL_number 8 = .ok (.i2l, 1) := by decide +kernel
theorem dL_number_9 : decode cL_number 9 = .ok (.lastore, 1) := by decide +kernel
theorem dL_number_10 : decode cL_number 10 = .ok (.goto 11, 3) := by decide +kernel
theorem dL_number_13 : decode cL_number 13 = .ok (.astore 4, 2) := by decide +kernel
theorem dL_number_15 : decode cL_number 15 = .ok (.iconst 1, 1) := by decide +kernel
theorem dL_number_16 : decode cL_number 16 = .ok (.ireturn, 1) := by decide +kernel
theorem dL_number_17 : decode cL_number 17 = .ok (.astore 4, 2) := by decide +kernel
theorem dL_number_19 : decode cL_number 19 = .ok (.iconst 2, 1) := by decide +kernel
theorem dL_number_20 : decode cL_number 20 = .ok (.ireturn, 1) := by decide +kernel
theorem dL_number_21 : decode cL_number 21 = .ok (.iconst 0, 1) := by decide +kernel
theorem dL_number_22 : decode cL_number 22 = .ok (.ireturn, 1) := by decide +kernel
theorem dL_mark_0 : decode cL_mark 0 = .ok (.aload_n 3, 1) := by decide +kernel
theorem dL_mark_1 : decode cL_mark 1 = .ok (.iconst 0, 1) := by decide +kernel
theorem dL_mark_2 : decode cL_mark 2 = .ok (.aload_n 0, 1) := by decide +kernel
theorem dL_mark_3 : decode cL_mark 3 = .ok (.iload_n 1, 1) := by decide +kernel
theorem dL_mark_4 : decode cL_mark 4 = .ok (.iload_n 2, 1) := by decide +kernel
theorem dL_mark_5 : decode cL_mark 5 = .ok (.invokevirtual 21, 3) := by decide +kernel
theorem dL_mark_8 : decode cL_mark 8 = .ok (.i2l, 1) := by decide +kernel
theorem dL_mark_9 : decode cL_mark 9 = .ok (.lastore, 1) := by decide +kernel
theorem dL_mark_10 : decode cL_mark 10 = .ok (.goto 11, 3) := by decide +kernel
theorem dL_mark_13 : decode cL_mark 13 = .ok (.astore 4, 2) := by decide +kernel
theorem dL_mark_15 : decode cL_mark 15 = .ok (.iconst 1, 1) := by decide +kernel
theorem dL_mark_16 : decode cL_mark 16 = .ok (.ireturn, 1) := by decide +kernel
theorem dL_mark_17 : decode cL_mark 17 = .ok (.astore 4, 2) := by decide +kernel
theorem dL_mark_19 : decode cL_mark 19 = .ok (.iconst 2, 1) := by decide +kernel
theorem dL_mark_20 : decode cL_mark 20 = .ok (.ireturn, 1) := by decide +kernel
theorem dL_mark_21 : decode cL_mark 21 = .ok (.iconst 0, 1) := by decide +kernel
theorem dL_mark_22 : decode cL_mark 22 = .ok (.ireturn, 1) := by decide +kernel
theorem dL_edgeOf_0 : decode cL_edgeOf 0 = .ok (.aload_n 3, 1) := by decide +kernel
theorem dL_edgeOf_1 : decode cL_edgeOf 1 = .ok (.iconst 0, 1) := by decide +kernel
theorem dL_edgeOf_2 : decode cL_edgeOf 2 = .ok (.aload_n 0, 1) := by decide +kernel
theorem dL_edgeOf_3 : decode cL_edgeOf 3 = .ok (.iload_n 1, 1) := by decide +kernel
theorem dL_edgeOf_4 : decode cL_edgeOf 4 = .ok (.iload_n 2, 1) := by decide +kernel
theorem dL_edgeOf_5 : decode cL_edgeOf 5 = .ok (.invokevirtual 24, 3) := by decide +kernel
theorem dL_edgeOf_8 : decode cL_edgeOf 8 = .ok (.i2l, 1) := by decide +kernel
theorem dL_edgeOf_9 : decode cL_edgeOf 9 = .ok (.lastore, 1) := by decide +kernel
theorem dL_edgeOf_10 : decode cL_edgeOf 10 = .ok (.goto 7, 3) := by decide +kernel
theorem dL_edgeOf_13 : decode cL_edgeOf 13 = .ok (.astore 4, 2) := by decide +kernel
theorem dL_edgeOf_15 : decode cL_edgeOf 15 = .ok (.iconst 1, 1) := by decide +kernel
theorem dL_edgeOf_16 : decode cL_edgeOf 16 = .ok (.ireturn, 1) := by decide +kernel
theorem dL_edgeOf_17 : decode cL_edgeOf 17 = .ok (.iconst 0, 1) := by decide +kernel
theorem dL_edgeOf_18 : decode cL_edgeOf 18 = .ok (.ireturn, 1) := by decide +kernel
theorem dL_follows_0 : decode cL_follows 0 = .ok (.aload_n 2, 1) := by decide +kernel
theorem dL_follows_1 : decode cL_follows 1 = .ok (.iconst 0, 1) := by decide +kernel
theorem dL_follows_2 : decode cL_follows 2 = .ok (.aload_n 0, 1) := by decide +kernel
theorem dL_follows_3 : decode cL_follows 3 = .ok (.iload_n 1, 1) := by decide +kernel
theorem dL_follows_4 : decode cL_follows 4 = .ok (.invokevirtual 27, 3) := by decide +kernel
theorem dL_follows_7 : decode cL_follows 7 = .ok (.i2l, 1) := by decide +kernel
theorem dL_follows_8 : decode cL_follows 8 = .ok (.lastore, 1) := by decide +kernel
theorem dL_follows_9 : decode cL_follows 9 = .ok (.goto 6, 3) := by decide +kernel
theorem dL_follows_12 : decode cL_follows 12 = .ok (.astore_n 3, 1) := by decide +kernel
theorem dL_follows_13 : decode cL_follows 13 = .ok (.iconst 1, 1) := by decide +kernel
theorem dL_follows_14 : decode cL_follows 14 = .ok (.ireturn, 1) := by decide +kernel
theorem dL_follows_15 : decode cL_follows 15 = .ok (.iconst 0, 1) := by decide +kernel
theorem dL_follows_16 : decode cL_follows 16 = .ok (.ireturn, 1) := by decide +kernel
theorem dL_roundOf_0 : decode cL_roundOf 0 = .ok (.aload_n 2, 1) := by decide +kernel
theorem dL_roundOf_1 : decode cL_roundOf 1 = .ok (.iconst 0, 1) := by decide +kernel
theorem dL_roundOf_2 : decode cL_roundOf 2 = .ok (.aload_n 0, 1) := by decide +kernel
theorem dL_roundOf_3 : decode cL_roundOf 3 = .ok (.iload_n 1, 1) := by decide +kernel
theorem dL_roundOf_4 : decode cL_roundOf 4 = .ok (.invokevirtual 31, 3) := by decide +kernel
theorem dL_roundOf_7 : decode cL_roundOf 7 = .ok (.i2l, 1) := by decide +kernel
theorem dL_roundOf_8 : decode cL_roundOf 8 = .ok (.lastore, 1) := by decide +kernel
theorem dL_roundOf_9 : decode cL_roundOf 9 = .ok (.goto 6, 3) := by decide +kernel
theorem dL_roundOf_12 : decode cL_roundOf 12 = .ok (.astore_n 3, 1) := by decide +kernel
theorem dL_roundOf_13 : decode cL_roundOf 13 = .ok (.iconst 1, 1) := by decide +kernel
theorem dL_roundOf_14 : decode cL_roundOf 14 = .ok (.ireturn, 1) := by decide +kernel
theorem dL_roundOf_15 : decode cL_roundOf 15 = .ok (.iconst 0, 1) := by decide +kernel
theorem dL_roundOf_16 : decode cL_roundOf 16 = .ok (.ireturn, 1) := by decide +kernel
theorem dL_ruleOf_0 : decode cL_ruleOf 0 = .ok (.aload_n 2, 1) := by decide +kernel
theorem dL_ruleOf_1 : decode cL_ruleOf 1 = .ok (.iconst 0, 1) := by decide +kernel
theorem dL_ruleOf_2 : decode cL_ruleOf 2 = .ok (.aload_n 0, 1) := by decide +kernel
theorem dL_ruleOf_3 : decode cL_ruleOf 3 = .ok (.iload_n 1, 1) := by decide +kernel
theorem dL_ruleOf_4 : decode cL_ruleOf 4 = .ok (.invokevirtual 34, 3) := by decide +kernel
theorem dL_ruleOf_7 : decode cL_ruleOf 7 = .ok (.i2l, 1) := by decide +kernel
theorem dL_ruleOf_8 : decode cL_ruleOf 8 = .ok (.lastore, 1) := by decide +kernel
theorem dL_ruleOf_9 : decode cL_ruleOf 9 = .ok (.goto 6, 3) := by decide +kernel
theorem dL_ruleOf_12 : decode cL_ruleOf 12 = .ok (.astore_n 3, 1) := by decide +kernel
theorem dL_ruleOf_13 : decode cL_ruleOf 13 = .ok (.iconst 1, 1) := by decide +kernel
theorem dL_ruleOf_14 : decode cL_ruleOf 14 = .ok (.ireturn, 1) := by decide +kernel
theorem dL_ruleOf_15 : decode cL_ruleOf 15 = .ok (.iconst 0, 1) := by decide +kernel
theorem dL_ruleOf_16 : decode cL_ruleOf 16 = .ok (.ireturn, 1) := by decide +kernel
theorem dL_answer_0 : decode cL_answer 0 = .ok (.aload_n 2, 1) := by decide +kernel
theorem dL_answer_1 : decode cL_answer 1 = .ok (.iconst 0, 1) := by decide +kernel
theorem dL_answer_2 : decode cL_answer 2 = .ok (.aload_n 0, 1) := by decide +kernel
theorem dL_answer_3 : decode cL_answer 3 = .ok (.iload_n 1, 1) := by decide +kernel
theorem dL_answer_4 : decode cL_answer 4 = .ok (.invokevirtual 37, 3) := by decide +kernel
theorem dL_answer_7 : decode cL_answer 7 = .ok (.lastore, 1) := by decide +kernel
theorem dL_answer_8 : decode cL_answer 8 = .ok (.goto 6, 3) := by decide +kernel
theorem dL_answer_11 : decode cL_answer 11 = .ok (.astore_n 3, 1) := by decide +kernel
theorem dL_answer_12 : decode cL_answer 12 = .ok (.iconst 1, 1) := by decide +kernel
theorem dL_answer_13 : decode cL_answer 13 = .ok (.ireturn, 1) := by decide +kernel
theorem dL_answer_14 : decode cL_answer 14 = .ok (.iconst 0, 1) := by decide +kernel
theorem dL_answer_15 : decode cL_answer 15 = .ok (.ireturn, 1) := by decide +kernel
theorem dL_isInside_0 : decode cL_isInside 0 = .ok (.aload_n 3, 1) := by decide +kernel
theorem dL_isInside_1 : decode cL_isInside 1 = .ok (.iconst 0, 1) := by decide +kernel
theorem dL_isInside_2 : decode cL_isInside 2 = .ok (.aload_n 0, 1) := by decide +kernel
theorem dL_isInside_3 : decode cL_isInside 3 = .ok (.iload_n 1, 1) := by decide +kernel
theorem dL_isInside_4 : decode cL_isInside 4 = .ok (.iload_n 2, 1) := by decide +kernel
theorem dL_isInside_5 : decode cL_isInside 5 = .ok (.invokevirtual 41, 3) := by decide +kernel
theorem dL_isInside_8 : decode cL_isInside 8 = .ok (.ifCond .eq 7, 3) := by decide +kernel
theorem dL_isInside_11 : decode cL_isInside 11 = .ok (.lconst 1, 1) := by decide +kernel
theorem dL_isInside_12 : decode cL_isInside 12 = .ok (.goto 4, 3) := by decide +kernel
theorem dL_isInside_15 : decode cL_isInside 15 = .ok (.lconst 0, 1) := by decide +kernel
theorem dL_isInside_16 : decode cL_isInside 16 = .ok (.lastore, 1) := by decide +kernel
theorem dL_isInside_17 : decode cL_isInside 17 = .ok (.goto 7, 3) := by decide +kernel
theorem dL_isInside_20 : decode cL_isInside 20 = .ok (.astore 4, 2) := by decide +kernel
theorem dL_isInside_22 : decode cL_isInside 22 = .ok (.iconst 1, 1) := by decide +kernel
theorem dL_isInside_23 : decode cL_isInside 23 = .ok (.ireturn, 1) := by decide +kernel
theorem dL_isInside_24 : decode cL_isInside 24 = .ok (.iconst 0, 1) := by decide +kernel
theorem dL_isInside_25 : decode cL_isInside 25 = .ok (.ireturn, 1) := by decide +kernel
theorem dL_proved_0 : decode cL_proved 0 = .ok (.aload_n 2, 1) := by decide +kernel
theorem dL_proved_1 : decode cL_proved 1 = .ok (.iconst 0, 1) := by decide +kernel
theorem dL_proved_2 : decode cL_proved 2 = .ok (.aload_n 0, 1) := by decide +kernel
theorem dL_proved_3 : decode cL_proved 3 = .ok (.iload_n 1, 1) := by decide +kernel
theorem dL_proved_4 : decode cL_proved 4 = .ok (.invokevirtual 45, 3) := by decide +kernel
theorem dL_proved_7 : decode cL_proved 7 = .ok (.i2l, 1) := by decide +kernel
theorem dL_proved_8 : decode cL_proved 8 = .ok (.lastore, 1) := by decide +kernel
theorem dL_proved_9 : decode cL_proved 9 = .ok (.goto 9, 3) := by decide +kernel
theorem dL_proved_12 : decode cL_proved 12 = .ok (.astore_n 3, 1) := by decide +kernel
theorem dL_proved_13 : decode cL_proved 13 = .ok (.iconst 1, 1) := by decide +kernel
theorem dL_proved_14 : decode cL_proved 14 = .ok (.ireturn, 1) := by decide +kernel
theorem dL_proved_15 : decode cL_proved 15 = .ok (.astore_n 3, 1) := by decide +kernel
theorem dL_proved_16 : decode cL_proved 16 = .ok (.iconst 2, 1) := by decide +kernel
theorem dL_proved_17 : decode cL_proved 17 = .ok (.ireturn, 1) := by decide +kernel
theorem dL_proved_18 : decode cL_proved 18 = .ok (.iconst 0, 1) := by decide +kernel
theorem dL_proved_19 : decode cL_proved 19 = .ok (.ireturn, 1) := by decide +kernel
theorem dL_beyondRules_0 : decode cL_beyondRules 0 = .ok (.aload_n 1, 1) := by decide +kernel
theorem dL_beyondRules_1 : decode cL_beyondRules 1 = .ok (.iconst 0, 1) := by decide +kernel
theorem dL_beyondRules_2 : decode cL_beyondRules 2 = .ok (.aload_n 0, 1) := by decide +kernel
theorem dL_beyondRules_3 : decode cL_beyondRules 3 = .ok (.invokevirtual 50, 3) := by decide +kernel
theorem dL_beyondRules_6 : decode cL_beyondRules 6 = .ok (.i2l, 1) := by decide +kernel
theorem dL_beyondRules_7 : decode cL_beyondRules 7 = .ok (.lastore, 1) := by decide +kernel
theorem dL_beyondRules_8 : decode cL_beyondRules 8 = .ok (.goto 6, 3) := by decide +kernel
theorem dL_beyondRules_11 : decode cL_beyondRules 11 = .ok (.astore_n 2, 1) := by decide +kernel
theorem dL_beyondRules_12 : decode cL_beyondRules 12 = .ok (.iconst 1, 1) := by decide +kernel
theorem dL_beyondRules_13 : decode cL_beyondRules 13 = .ok (.ireturn, 1) := by decide +kernel
theorem dL_beyondRules_14 : decode cL_beyondRules 14 = .ok (.iconst 0, 1) := by decide +kernel
theorem dL_beyondRules_15 : decode cL_beyondRules 15 = .ok (.ireturn, 1) := by decide +kernel
theorem dL_isNeeded_0 : decode cL_isNeeded 0 = .ok (.aload_n 2, 1) := by decide +kernel
theorem dL_isNeeded_1 : decode cL_isNeeded 1 = .ok (.iconst 0, 1) := by decide +kernel
theorem dL_isNeeded_2 : decode cL_isNeeded 2 = .ok (.aload_n 0, 1) := by decide +kernel
theorem dL_isNeeded_3 : decode cL_isNeeded 3 = .ok (.iload_n 1, 1) := by decide +kernel
theorem dL_isNeeded_4 : decode cL_isNeeded 4 = .ok (.invokevirtual 54, 3) := by decide +kernel
theorem dL_isNeeded_7 : decode cL_isNeeded 7 = .ok (.ifCond .eq 7, 3) := by decide +kernel
theorem dL_isNeeded_10 : decode cL_isNeeded 10 = .ok (.lconst 1, 1) := by decide +kernel
theorem dL_isNeeded_11 : decode cL_isNeeded 11 = .ok (.goto 4, 3) := by decide +kernel
theorem dL_isNeeded_14 : decode cL_isNeeded 14 = .ok (.lconst 0, 1) := by decide +kernel
theorem dL_isNeeded_15 : decode cL_isNeeded 15 = .ok (.lastore, 1) := by decide +kernel
theorem dL_isNeeded_16 : decode cL_isNeeded 16 = .ok (.goto 6, 3) := by decide +kernel
theorem dL_isNeeded_19 : decode cL_isNeeded 19 = .ok (.astore_n 3, 1) := by decide +kernel
theorem dL_isNeeded_20 : decode cL_isNeeded 20 = .ok (.iconst 1, 1) := by decide +kernel
theorem dL_isNeeded_21 : decode cL_isNeeded 21 = .ok (.ireturn, 1) := by decide +kernel
theorem dL_isNeeded_22 : decode cL_isNeeded 22 = .ok (.iconst 0, 1) := by decide +kernel
theorem dL_isNeeded_23 : decode cL_isNeeded 23 = .ok (.ireturn, 1) := by decide +kernel
theorem dL_law_0 : decode cL_law 0 = .ok (.new 8, 3) := by decide +kernel
theorem dL_law_3 : decode cL_law 3 = .ok (.dup, 1) := by decide +kernel
theorem dL_law_4 : decode cL_law 4 = .ok (.invokespecial 58, 3) := by decide +kernel
theorem dL_law_7 : decode cL_law 7 = .ok (.astore_n 1, 1) := by decide +kernel
theorem dL_law_8 : decode cL_law 8 = .ok (.new 59, 3) := by decide +kernel
theorem dL_law_11 : decode cL_law 11 = .ok (.dup, 1) := by decide +kernel
theorem dL_law_12 : decode cL_law 12 = .ok (.invokespecial 61, 3) := by decide +kernel
theorem dL_law_15 : decode cL_law 15 = .ok (.astore_n 2, 1) := by decide +kernel
theorem dL_law_16 : decode cL_law 16 = .ok (.iconst 1, 1) := by decide +kernel
theorem dL_law_17 : decode cL_law 17 = .ok (.newarray .long, 2) := by decide +kernel
theorem dL_law_19 : decode cL_law 19 = .ok (.astore_n 3, 1) := by decide +kernel
theorem dL_law_20 : decode cL_law 20 = .ok (.iconst 0, 1) := by decide +kernel
theorem dL_law_21 : decode cL_law 21 = .ok (.istore 4, 2) := by decide +kernel
theorem dL_law_23 : decode cL_law 23 = .ok (.iload 4, 2) := by decide +kernel
theorem dL_law_25 : decode cL_law 25 = .ok (.aload_n 0, 1) := by decide +kernel
theorem dL_law_26 : decode cL_law 26 = .ok (.arraylength, 1) := by decide +kernel
theorem dL_law_27 : decode cL_law 27 = .ok (.iconst 3, 1) := by decide +kernel
theorem dL_law_28 : decode cL_law 28 = .ok (.isub, 1) := by decide +kernel
theorem dL_law_29 : decode cL_law 29 = .ok (.if_icmp .gt 992, 3) := by decide +kernel
theorem dL_law_32 : decode cL_law 32 = .ok (.aload_n 0, 1) := by decide +kernel
theorem dL_law_33 : decode cL_law 33 = .ok (.iload 4, 2) := by decide +kernel
theorem dL_law_35 : decode cL_law 35 = .ok (.iaload, 1) := by decide +kernel
theorem dL_law_36 : decode cL_law 36 = .ok (.bipush 31, 2) := by decide +kernel
theorem dL_law_38 : decode cL_law 38 = .ok (.iand, 1) := by decide +kernel
theorem dL_law_39 : decode cL_law 39 = .ok (.tableswitch 976 0 23 #[109, 157, 170, 183, 251, 319, 330, 343, 411, 424, 437, 450, 463, 519, 575, 631, 644, 657, 670, 683, 738, 813, 869, 913], 109) := by decide +kernel
theorem dL_law_148 : decode cL_law 148 = .ok (.aload_n 1, 1) := by decide +kernel
theorem dL_law_149 : decode cL_law 149 = .ok (.aload_n 0, 1) := by decide +kernel
theorem dL_law_150 : decode cL_law 150 = .ok (.iload 4, 2) := by decide +kernel
theorem dL_law_152 : decode cL_law 152 = .ok (.iconst 1, 1) := by decide +kernel
theorem dL_law_153 : decode cL_law 153 = .ok (.iadd, 1) := by decide +kernel
theorem dL_law_154 : decode cL_law 154 = .ok (.iaload, 1) := by decide +kernel
theorem dL_law_155 : decode cL_law 155 = .ok (.aload_n 0, 1) := by decide +kernel
theorem dL_law_156 : decode cL_law 156 = .ok (.iload 4, 2) := by decide +kernel
theorem dL_law_158 : decode cL_law 158 = .ok (.iconst 2, 1) := by decide +kernel
theorem dL_law_159 : decode cL_law 159 = .ok (.iadd, 1) := by decide +kernel
theorem dL_law_160 : decode cL_law 160 = .ok (.iaload, 1) := by decide +kernel
theorem dL_law_161 : decode cL_law 161 = .ok (.invokestatic 62, 3) := by decide +kernel
theorem dL_law_164 : decode cL_law 164 = .ok (.istore 5, 2) := by decide +kernel
theorem dL_law_166 : decode cL_law 166 = .ok (.aload_n 2, 1) := by decide +kernel
theorem dL_law_167 : decode cL_law 167 = .ok (.aload_n 0, 1) := by decide +kernel
theorem dL_law_168 : decode cL_law 168 = .ok (.iload 4, 2) := by decide +kernel
theorem dL_law_170 : decode cL_law 170 = .ok (.iconst 1, 1) := by decide +kernel
theorem dL_law_171 : decode cL_law 171 = .ok (.iadd, 1) := by decide +kernel
theorem dL_law_172 : decode cL_law 172 = .ok (.iaload, 1) := by decide +kernel
theorem dL_law_173 : decode cL_law 173 = .ok (.aload_n 0, 1) := by decide +kernel
theorem dL_law_174 : decode cL_law 174 = .ok (.iload 4, 2) := by decide +kernel
theorem dL_law_176 : decode cL_law 176 = .ok (.iconst 2, 1) := by decide +kernel
theorem dL_law_177 : decode cL_law 177 = .ok (.iadd, 1) := by decide +kernel
theorem dL_law_178 : decode cL_law 178 = .ok (.iaload, 1) := by decide +kernel
theorem dL_law_179 : decode cL_law 179 = .ok (.invokevirtual 67, 3) := by decide +kernel
theorem dL_law_182 : decode cL_law 182 = .ok (.aload_n 2, 1) := by decide +kernel
theorem dL_law_183 : decode cL_law 183 = .ok (.invokevirtual 68, 3) := by decide +kernel
theorem dL_law_186 : decode cL_law 186 = .ok (.iload 5, 2) := by decide +kernel
theorem dL_law_188 : decode cL_law 188 = .ok (.if_icmp .eq 5, 3) := by decide +kernel
theorem dL_law_191 : decode cL_law 191 = .ok (.iconst 0, 1) := by decide +kernel
theorem dL_law_192 : decode cL_law 192 = .ok (.ireturn, 1) := by decide +kernel
theorem dL_law_193 : decode cL_law 193 = .ok (.goto 822, 3) := by decide +kernel
theorem dL_law_196 : decode cL_law 196 = .ok (.aload_n 1, 1) := by decide +kernel
theorem dL_law_197 : decode cL_law 197 = .ok (.invokevirtual 71, 3) := by decide +kernel
theorem dL_law_200 : decode cL_law 200 = .ok (.aload_n 2, 1) := by decide +kernel
theorem dL_law_201 : decode cL_law 201 = .ok (.invokevirtual 74, 3) := by decide +kernel
theorem dL_law_204 : decode cL_law 204 = .ok (.if_icmp .eq 811, 3) := by decide +kernel
theorem dL_law_207 : decode cL_law 207 = .ok (.iconst 0, 1) := by decide +kernel
theorem dL_law_208 : decode cL_law 208 = .ok (.ireturn, 1) := by decide +kernel
theorem dL_law_209 : decode cL_law 209 = .ok (.aload_n 1, 1) := by decide +kernel
theorem dL_law_210 : decode cL_law 210 = .ok (.invokevirtual 75, 3) := by decide +kernel
theorem dL_law_213 : decode cL_law 213 = .ok (.aload_n 2, 1) := by decide +kernel
theorem dL_law_214 : decode cL_law 214 = .ok (.invokevirtual 78, 3) := by decide +kernel
theorem dL_law_217 : decode cL_law 217 = .ok (.if_icmp .eq 798, 3) := by decide +kernel
theorem dL_law_220 : decode cL_law 220 = .ok (.iconst 0, 1) := by decide +kernel
theorem dL_law_221 : decode cL_law 221 = .ok (.ireturn, 1) := by decide +kernel
theorem dL_law_222 : decode cL_law 222 = .ok (.aload_n 1, 1) := by decide +kernel
theorem dL_law_223 : decode cL_law 223 = .ok (.aload_n 0, 1) := by decide +kernel
theorem dL_law_224 : decode cL_law 224 = .ok (.iload 4, 2) := by decide +kernel
theorem dL_law_226 : decode cL_law 226 = .ok (.iconst 1, 1) := by decide +kernel
theorem dL_law_227 : decode cL_law 227 = .ok (.iadd, 1) := by decide +kernel
theorem dL_law_228 : decode cL_law 228 = .ok (.iaload, 1) := by decide +kernel
theorem dL_law_229 : decode cL_law 229 = .ok (.aload_n 0, 1) := by decide +kernel
theorem dL_law_230 : decode cL_law 230 = .ok (.iload 4, 2) := by decide +kernel
theorem dL_law_232 : decode cL_law 232 = .ok (.iconst 2, 1) := by decide +kernel
theorem dL_law_233 : decode cL_law 233 = .ok (.iadd, 1) := by decide +kernel
theorem dL_law_234 : decode cL_law 234 = .ok (.iaload, 1) := by decide +kernel
theorem dL_law_235 : decode cL_law 235 = .ok (.aload_n 3, 1) := by decide +kernel
theorem dL_law_236 : decode cL_law 236 = .ok (.invokestatic 79, 3) := by decide +kernel
theorem dL_law_239 : decode cL_law 239 = .ok (.istore 5, 2) := by decide +kernel
theorem dL_law_241 : decode cL_law 241 = .ok (.aload_n 2, 1) := by decide +kernel
theorem dL_law_242 : decode cL_law 242 = .ok (.aload_n 0, 1) := by decide +kernel
theorem dL_law_243 : decode cL_law 243 = .ok (.iload 4, 2) := by decide +kernel
theorem dL_law_245 : decode cL_law 245 = .ok (.iconst 1, 1) := by decide +kernel
theorem dL_law_246 : decode cL_law 246 = .ok (.iadd, 1) := by decide +kernel
theorem dL_law_247 : decode cL_law 247 = .ok (.iaload, 1) := by decide +kernel
theorem dL_law_248 : decode cL_law 248 = .ok (.aload_n 0, 1) := by decide +kernel
theorem dL_law_249 : decode cL_law 249 = .ok (.iload 4, 2) := by decide +kernel
theorem dL_law_251 : decode cL_law 251 = .ok (.iconst 2, 1) := by decide +kernel
theorem dL_law_252 : decode cL_law 252 = .ok (.iadd, 1) := by decide +kernel
theorem dL_law_253 : decode cL_law 253 = .ok (.iaload, 1) := by decide +kernel
theorem dL_law_254 : decode cL_law 254 = .ok (.invokevirtual 82, 3) := by decide +kernel
theorem dL_law_257 : decode cL_law 257 = .ok (.istore 6, 2) := by decide +kernel
theorem dL_law_259 : decode cL_law 259 = .ok (.aload_n 2, 1) := by decide +kernel
theorem dL_law_260 : decode cL_law 260 = .ok (.invokevirtual 68, 3) := by decide +kernel
theorem dL_law_263 : decode cL_law 263 = .ok (.iload 5, 2) := by decide +kernel
theorem dL_law_265 : decode cL_law 265 = .ok (.if_icmp .eq 5, 3) := by decide +kernel
theorem dL_law_268 : decode cL_law 268 = .ok (.iconst 0, 1) := by decide +kernel
theorem dL_law_269 : decode cL_law 269 = .ok (.ireturn, 1) := by decide +kernel
theorem dL_law_270 : decode cL_law 270 = .ok (.iload 5, 2) := by decide +kernel
theorem dL_law_272 : decode cL_law 272 = .ok (.ifCond .ne 15, 3) := by decide +kernel
theorem dL_law_275 : decode cL_law 275 = .ok (.aload_n 3, 1) := by decide +kernel
theorem dL_law_276 : decode cL_law 276 = .ok (.iconst 0, 1) := by decide +kernel
theorem dL_law_277 : decode cL_law 277 = .ok (.laload, 1) := by decide +kernel
theorem dL_law_278 : decode cL_law 278 = .ok (.iload 6, 2) := by decide +kernel
theorem dL_law_280 : decode cL_law 280 = .ok (.i2l, 1) := by decide +kernel
theorem dL_law_281 : decode cL_law 281 = .ok (.lcmp, 1) := by decide +kernel
theorem dL_law_282 : decode cL_law 282 = .ok (.ifCond .eq 5, 3) := by decide +kernel
theorem dL_law_285 : decode cL_law 285 = .ok (.iconst 0, 1) := by decide +kernel
theorem dL_law_286 : decode cL_law 286 = .ok (.ireturn, 1) := by decide +kernel
theorem dL_law_287 : decode cL_law 287 = .ok (.goto 728, 3) := by decide +kernel
theorem dL_law_290 : decode cL_law 290 = .ok (.aload_n 1, 1) := by decide +kernel
theorem dL_law_291 : decode cL_law 291 = .ok (.aload_n 0, 1) := by decide +kernel
theorem dL_law_292 : decode cL_law 292 = .ok (.iload 4, 2) := by decide +kernel
theorem dL_law_294 : decode cL_law 294 = .ok (.iconst 1, 1) := by decide +kernel
theorem dL_law_295 : decode cL_law 295 = .ok (.iadd, 1) := by decide +kernel
theorem dL_law_296 : decode cL_law 296 = .ok (.iaload, 1) := by decide +kernel
theorem dL_law_297 : decode cL_law 297 = .ok (.aload_n 0, 1) := by decide +kernel
theorem dL_law_298 : decode cL_law 298 = .ok (.iload 4, 2) := by decide +kernel
theorem dL_law_300 : decode cL_law 300 = .ok (.iconst 2, 1) := by decide +kernel
theorem dL_law_301 : decode cL_law 301 = .ok (.iadd, 1) := by decide +kernel
theorem dL_law_302 : decode cL_law 302 = .ok (.iaload, 1) := by decide +kernel
theorem dL_law_303 : decode cL_law 303 = .ok (.aload_n 3, 1) := by decide +kernel
theorem dL_law_304 : decode cL_law 304 = .ok (.invokestatic 83, 3) := by decide +kernel
theorem dL_law_307 : decode cL_law 307 = .ok (.istore 5, 2) := by decide +kernel
theorem dL_law_309 : decode cL_law 309 = .ok (.aload_n 2, 1) := by decide +kernel
theorem dL_law_310 : decode cL_law 310 = .ok (.aload_n 0, 1) := by decide +kernel
theorem dL_law_311 : decode cL_law 311 = .ok (.iload 4, 2) := by decide +kernel
theorem dL_law_313 : decode cL_law 313 = .ok (.iconst 1, 1) := by decide +kernel
theorem dL_law_314 : decode cL_law 314 = .ok (.iadd, 1) := by decide +kernel
theorem dL_law_315 : decode cL_law 315 = .ok (.iaload, 1) := by decide +kernel
theorem dL_law_316 : decode cL_law 316 = .ok (.aload_n 0, 1) := by decide +kernel
theorem dL_law_317 : decode cL_law 317 = .ok (.iload 4, 2) := by decide +kernel
theorem dL_law_319 : decode cL_law 319 = .ok (.iconst 2, 1) := by decide +kernel
theorem dL_law_320 : decode cL_law 320 = .ok (.iadd, 1) := by decide +kernel
theorem dL_law_321 : decode cL_law 321 = .ok (.iaload, 1) := by decide +kernel
theorem dL_law_322 : decode cL_law 322 = .ok (.invokevirtual 85, 3) := by decide +kernel
theorem dL_law_325 : decode cL_law 325 = .ok (.istore 6, 2) := by decide +kernel
theorem dL_law_327 : decode cL_law 327 = .ok (.aload_n 2, 1) := by decide +kernel
theorem dL_law_328 : decode cL_law 328 = .ok (.invokevirtual 68, 3) := by decide +kernel
theorem dL_law_331 : decode cL_law 331 = .ok (.iload 5, 2) := by decide +kernel
theorem dL_law_333 : decode cL_law 333 = .ok (.if_icmp .eq 5, 3) := by decide +kernel
theorem dL_law_336 : decode cL_law 336 = .ok (.iconst 0, 1) := by decide +kernel
theorem dL_law_337 : decode cL_law 337 = .ok (.ireturn, 1) := by decide +kernel
theorem dL_law_338 : decode cL_law 338 = .ok (.iload 5, 2) := by decide +kernel
theorem dL_law_340 : decode cL_law 340 = .ok (.ifCond .ne 15, 3) := by decide +kernel
theorem dL_law_343 : decode cL_law 343 = .ok (.aload_n 3, 1) := by decide +kernel
theorem dL_law_344 : decode cL_law 344 = .ok (.iconst 0, 1) := by decide +kernel
theorem dL_law_345 : decode cL_law 345 = .ok (.laload, 1) := by decide +kernel
theorem dL_law_346 : decode cL_law 346 = .ok (.iload 6, 2) := by decide +kernel
theorem dL_law_348 : decode cL_law 348 = .ok (.i2l, 1) := by decide +kernel
theorem dL_law_349 : decode cL_law 349 = .ok (.lcmp, 1) := by decide +kernel
theorem dL_law_350 : decode cL_law 350 = .ok (.ifCond .eq 5, 3) := by decide +kernel
theorem dL_law_353 : decode cL_law 353 = .ok (.iconst 0, 1) := by decide +kernel
theorem dL_law_354 : decode cL_law 354 = .ok (.ireturn, 1) := by decide +kernel
theorem dL_law_355 : decode cL_law 355 = .ok (.goto 660, 3) := by decide +kernel
theorem dL_law_358 : decode cL_law 358 = .ok (.aload_n 1, 1) := by decide +kernel
theorem dL_law_359 : decode cL_law 359 = .ok (.invokevirtual 86, 3) := by decide +kernel
theorem dL_law_362 : decode cL_law 362 = .ok (.aload_n 2, 1) := by decide +kernel
theorem dL_law_363 : decode cL_law 363 = .ok (.invokevirtual 89, 3) := by decide +kernel
theorem dL_law_366 : decode cL_law 366 = .ok (.goto 649, 3) := by decide +kernel
theorem dL_law_369 : decode cL_law 369 = .ok (.aload_n 1, 1) := by decide +kernel
theorem dL_law_370 : decode cL_law 370 = .ok (.invokevirtual 90, 3) := by decide +kernel
theorem dL_law_373 : decode cL_law 373 = .ok (.aload_n 2, 1) := by decide +kernel
theorem dL_law_374 : decode cL_law 374 = .ok (.invokevirtual 93, 3) := by decide +kernel
theorem dL_law_377 : decode cL_law 377 = .ok (.if_icmp .eq 638, 3) := by decide +kernel
theorem dL_law_380 : decode cL_law 380 = .ok (.iconst 0, 1) := by decide +kernel
theorem dL_law_381 : decode cL_law 381 = .ok (.ireturn, 1) := by decide +kernel
theorem dL_law_382 : decode cL_law 382 = .ok (.aload_n 1, 1) := by decide +kernel
theorem dL_law_383 : decode cL_law 383 = .ok (.aload_n 0, 1) := by decide +kernel
theorem dL_law_384 : decode cL_law 384 = .ok (.iload 4, 2) := by decide +kernel
theorem dL_law_386 : decode cL_law 386 = .ok (.iconst 1, 1) := by decide +kernel
theorem dL_law_387 : decode cL_law 387 = .ok (.iadd, 1) := by decide +kernel
theorem dL_law_388 : decode cL_law 388 = .ok (.iaload, 1) := by decide +kernel
theorem dL_law_389 : decode cL_law 389 = .ok (.aload_n 0, 1) := by decide +kernel
theorem dL_law_390 : decode cL_law 390 = .ok (.iload 4, 2) := by decide +kernel
theorem dL_law_392 : decode cL_law 392 = .ok (.iconst 2, 1) := by decide +kernel
theorem dL_law_393 : decode cL_law 393 = .ok (.iadd, 1) := by decide +kernel
theorem dL_law_394 : decode cL_law 394 = .ok (.iaload, 1) := by decide +kernel
theorem dL_law_395 : decode cL_law 395 = .ok (.aload_n 3, 1) := by decide +kernel
theorem dL_law_396 : decode cL_law 396 = .ok (.invokestatic 94, 3) := by decide +kernel
theorem dL_law_399 : decode cL_law 399 = .ok (.istore 5, 2) := by decide +kernel
theorem dL_law_401 : decode cL_law 401 = .ok (.aload_n 2, 1) := by decide +kernel
theorem dL_law_402 : decode cL_law 402 = .ok (.aload_n 0, 1) := by decide +kernel
theorem dL_law_403 : decode cL_law 403 = .ok (.iload 4, 2) := by decide +kernel
theorem dL_law_405 : decode cL_law 405 = .ok (.iconst 1, 1) := by decide +kernel
theorem dL_law_406 : decode cL_law 406 = .ok (.iadd, 1) := by decide +kernel
theorem dL_law_407 : decode cL_law 407 = .ok (.iaload, 1) := by decide +kernel
theorem dL_law_408 : decode cL_law 408 = .ok (.aload_n 0, 1) := by decide +kernel
theorem dL_law_409 : decode cL_law 409 = .ok (.iload 4, 2) := by decide +kernel
theorem dL_law_411 : decode cL_law 411 = .ok (.iconst 2, 1) := by decide +kernel
theorem dL_law_412 : decode cL_law 412 = .ok (.iadd, 1) := by decide +kernel
theorem dL_law_413 : decode cL_law 413 = .ok (.iaload, 1) := by decide +kernel
theorem dL_law_414 : decode cL_law 414 = .ok (.invokevirtual 96, 3) := by decide +kernel
theorem dL_law_417 : decode cL_law 417 = .ok (.istore 6, 2) := by decide +kernel
theorem dL_law_419 : decode cL_law 419 = .ok (.aload_n 2, 1) := by decide +kernel
theorem dL_law_420 : decode cL_law 420 = .ok (.invokevirtual 68, 3) := by decide +kernel
theorem dL_law_423 : decode cL_law 423 = .ok (.iload 5, 2) := by decide +kernel
theorem dL_law_425 : decode cL_law 425 = .ok (.if_icmp .eq 5, 3) := by decide +kernel
theorem dL_law_428 : decode cL_law 428 = .ok (.iconst 0, 1) := by decide +kernel
theorem dL_law_429 : decode cL_law 429 = .ok (.ireturn, 1) := by decide +kernel
theorem dL_law_430 : decode cL_law 430 = .ok (.iload 5, 2) := by decide +kernel
theorem dL_law_432 : decode cL_law 432 = .ok (.ifCond .ne 15, 3) := by decide +kernel
theorem dL_law_435 : decode cL_law 435 = .ok (.aload_n 3, 1) := by decide +kernel
theorem dL_law_436 : decode cL_law 436 = .ok (.iconst 0, 1) := by decide +kernel
theorem dL_law_437 : decode cL_law 437 = .ok (.laload, 1) := by decide +kernel
theorem dL_law_438 : decode cL_law 438 = .ok (.iload 6, 2) := by decide +kernel
theorem dL_law_440 : decode cL_law 440 = .ok (.i2l, 1) := by decide +kernel
theorem dL_law_441 : decode cL_law 441 = .ok (.lcmp, 1) := by decide +kernel
theorem dL_law_442 : decode cL_law 442 = .ok (.ifCond .eq 5, 3) := by decide +kernel
theorem dL_law_445 : decode cL_law 445 = .ok (.iconst 0, 1) := by decide +kernel
theorem dL_law_446 : decode cL_law 446 = .ok (.ireturn, 1) := by decide +kernel
theorem dL_law_447 : decode cL_law 447 = .ok (.goto 568, 3) := by decide +kernel
theorem dL_law_450 : decode cL_law 450 = .ok (.aload_n 1, 1) := by decide +kernel
theorem dL_law_451 : decode cL_law 451 = .ok (.invokevirtual 97, 3) := by decide +kernel
theorem dL_law_454 : decode cL_law 454 = .ok (.aload_n 2, 1) := by decide +kernel
theorem dL_law_455 : decode cL_law 455 = .ok (.invokevirtual 100, 3) := by decide +kernel
theorem dL_law_458 : decode cL_law 458 = .ok (.if_icmp .eq 557, 3) := by decide +kernel
theorem dL_law_461 : decode cL_law 461 = .ok (.iconst 0, 1) := by decide +kernel
theorem dL_law_462 : decode cL_law 462 = .ok (.ireturn, 1) := by decide +kernel
theorem dL_law_463 : decode cL_law 463 = .ok (.aload_n 1, 1) := by decide +kernel
theorem dL_law_464 : decode cL_law 464 = .ok (.invokevirtual 101, 3) := by decide +kernel
theorem dL_law_467 : decode cL_law 467 = .ok (.aload_n 2, 1) := by decide +kernel
theorem dL_law_468 : decode cL_law 468 = .ok (.invokevirtual 104, 3) := by decide +kernel
theorem dL_law_471 : decode cL_law 471 = .ok (.if_icmp .eq 544, 3) := by decide +kernel
theorem dL_law_474 : decode cL_law 474 = .ok (.iconst 0, 1) := by decide +kernel
theorem dL_law_475 : decode cL_law 475 = .ok (.ireturn, 1) := by decide +kernel
theorem dL_law_476 : decode cL_law 476 = .ok (.aload_n 1, 1) := by decide +kernel
theorem dL_law_477 : decode cL_law 477 = .ok (.invokevirtual 105, 3) := by decide +kernel
theorem dL_law_480 : decode cL_law 480 = .ok (.aload_n 2, 1) := by decide +kernel
theorem dL_law_481 : decode cL_law 481 = .ok (.invokevirtual 108, 3) := by decide +kernel
theorem dL_law_484 : decode cL_law 484 = .ok (.if_icmp .eq 531, 3) := by decide +kernel
theorem dL_law_487 : decode cL_law 487 = .ok (.iconst 0, 1) := by decide +kernel
theorem dL_law_488 : decode cL_law 488 = .ok (.ireturn, 1) := by decide +kernel
theorem dL_law_489 : decode cL_law 489 = .ok (.aload_n 1, 1) := by decide +kernel
theorem dL_law_490 : decode cL_law 490 = .ok (.invokevirtual 109, 3) := by decide +kernel
theorem dL_law_493 : decode cL_law 493 = .ok (.aload_n 2, 1) := by decide +kernel
theorem dL_law_494 : decode cL_law 494 = .ok (.invokevirtual 113, 3) := by decide +kernel
theorem dL_law_497 : decode cL_law 497 = .ok (.if_icmp .eq 518, 3) := by decide +kernel
theorem dL_law_500 : decode cL_law 500 = .ok (.iconst 0, 1) := by decide +kernel
theorem dL_law_501 : decode cL_law 501 = .ok (.ireturn, 1) := by decide +kernel
theorem dL_law_502 : decode cL_law 502 = .ok (.aload_n 1, 1) := by decide +kernel
theorem dL_law_503 : decode cL_law 503 = .ok (.aload_n 0, 1) := by decide +kernel
theorem dL_law_504 : decode cL_law 504 = .ok (.iload 4, 2) := by decide +kernel
theorem dL_law_506 : decode cL_law 506 = .ok (.iconst 1, 1) := by decide +kernel
theorem dL_law_507 : decode cL_law 507 = .ok (.iadd, 1) := by decide +kernel
theorem dL_law_508 : decode cL_law 508 = .ok (.iaload, 1) := by decide +kernel
theorem dL_law_509 : decode cL_law 509 = .ok (.aload_n 3, 1) := by decide +kernel
theorem dL_law_510 : decode cL_law 510 = .ok (.invokestatic 114, 3) := by decide +kernel
theorem dL_law_513 : decode cL_law 513 = .ok (.istore 5, 2) := by decide +kernel
theorem dL_law_515 : decode cL_law 515 = .ok (.aload_n 2, 1) := by decide +kernel
theorem dL_law_516 : decode cL_law 516 = .ok (.aload_n 0, 1) := by decide +kernel
theorem dL_law_517 : decode cL_law 517 = .ok (.iload 4, 2) := by decide +kernel
theorem dL_law_519 : decode cL_law 519 = .ok (.iconst 1, 1) := by decide +kernel
theorem dL_law_520 : decode cL_law 520 = .ok (.iadd, 1) := by decide +kernel
theorem dL_law_521 : decode cL_law 521 = .ok (.iaload, 1) := by decide +kernel
theorem dL_law_522 : decode cL_law 522 = .ok (.invokevirtual 117, 3) := by decide +kernel
theorem dL_law_525 : decode cL_law 525 = .ok (.istore 6, 2) := by decide +kernel
theorem dL_law_527 : decode cL_law 527 = .ok (.aload_n 2, 1) := by decide +kernel
theorem dL_law_528 : decode cL_law 528 = .ok (.invokevirtual 68, 3) := by decide +kernel
theorem dL_law_531 : decode cL_law 531 = .ok (.iload 5, 2) := by decide +kernel
theorem dL_law_533 : decode cL_law 533 = .ok (.if_icmp .eq 5, 3) := by decide +kernel
theorem dL_law_536 : decode cL_law 536 = .ok (.iconst 0, 1) := by decide +kernel
theorem dL_law_537 : decode cL_law 537 = .ok (.ireturn, 1) := by decide +kernel
theorem dL_law_538 : decode cL_law 538 = .ok (.iload 5, 2) := by decide +kernel
theorem dL_law_540 : decode cL_law 540 = .ok (.ifCond .ne 15, 3) := by decide +kernel
theorem dL_law_543 : decode cL_law 543 = .ok (.aload_n 3, 1) := by decide +kernel
theorem dL_law_544 : decode cL_law 544 = .ok (.iconst 0, 1) := by decide +kernel
theorem dL_law_545 : decode cL_law 545 = .ok (.laload, 1) := by decide +kernel
theorem dL_law_546 : decode cL_law 546 = .ok (.iload 6, 2) := by decide +kernel
theorem dL_law_548 : decode cL_law 548 = .ok (.i2l, 1) := by decide +kernel
theorem dL_law_549 : decode cL_law 549 = .ok (.lcmp, 1) := by decide +kernel
theorem dL_law_550 : decode cL_law 550 = .ok (.ifCond .eq 5, 3) := by decide +kernel
theorem dL_law_553 : decode cL_law 553 = .ok (.iconst 0, 1) := by decide +kernel
theorem dL_law_554 : decode cL_law 554 = .ok (.ireturn, 1) := by decide +kernel
theorem dL_law_555 : decode cL_law 555 = .ok (.goto 460, 3) := by decide +kernel
theorem dL_law_558 : decode cL_law 558 = .ok (.aload_n 1, 1) := by decide +kernel
theorem dL_law_559 : decode cL_law 559 = .ok (.aload_n 0, 1) := by decide +kernel
theorem dL_law_560 : decode cL_law 560 = .ok (.iload 4, 2) := by decide +kernel
theorem dL_law_562 : decode cL_law 562 = .ok (.iconst 1, 1) := by decide +kernel
theorem dL_law_563 : decode cL_law 563 = .ok (.iadd, 1) := by decide +kernel
theorem dL_law_564 : decode cL_law 564 = .ok (.iaload, 1) := by decide +kernel
theorem dL_law_565 : decode cL_law 565 = .ok (.aload_n 3, 1) := by decide +kernel
theorem dL_law_566 : decode cL_law 566 = .ok (.invokestatic 118, 3) := by decide +kernel
theorem dL_law_569 : decode cL_law 569 = .ok (.istore 5, 2) := by decide +kernel
theorem dL_law_571 : decode cL_law 571 = .ok (.aload_n 2, 1) := by decide +kernel
theorem dL_law_572 : decode cL_law 572 = .ok (.aload_n 0, 1) := by decide +kernel
theorem dL_law_573 : decode cL_law 573 = .ok (.iload 4, 2) := by decide +kernel
theorem dL_law_575 : decode cL_law 575 = .ok (.iconst 1, 1) := by decide +kernel
theorem dL_law_576 : decode cL_law 576 = .ok (.iadd, 1) := by decide +kernel
theorem dL_law_577 : decode cL_law 577 = .ok (.iaload, 1) := by decide +kernel
theorem dL_law_578 : decode cL_law 578 = .ok (.invokevirtual 120, 3) := by decide +kernel
theorem dL_law_581 : decode cL_law 581 = .ok (.istore 6, 2) := by decide +kernel
theorem dL_law_583 : decode cL_law 583 = .ok (.aload_n 2, 1) := by decide +kernel
theorem dL_law_584 : decode cL_law 584 = .ok (.invokevirtual 68, 3) := by decide +kernel
theorem dL_law_587 : decode cL_law 587 = .ok (.iload 5, 2) := by decide +kernel
theorem dL_law_589 : decode cL_law 589 = .ok (.if_icmp .eq 5, 3) := by decide +kernel
theorem dL_law_592 : decode cL_law 592 = .ok (.iconst 0, 1) := by decide +kernel
theorem dL_law_593 : decode cL_law 593 = .ok (.ireturn, 1) := by decide +kernel
theorem dL_law_594 : decode cL_law 594 = .ok (.iload 5, 2) := by decide +kernel
theorem dL_law_596 : decode cL_law 596 = .ok (.ifCond .ne 15, 3) := by decide +kernel
theorem dL_law_599 : decode cL_law 599 = .ok (.aload_n 3, 1) := by decide +kernel
theorem dL_law_600 : decode cL_law 600 = .ok (.iconst 0, 1) := by decide +kernel
theorem dL_law_601 : decode cL_law 601 = .ok (.laload, 1) := by decide +kernel
theorem dL_law_602 : decode cL_law 602 = .ok (.iload 6, 2) := by decide +kernel
theorem dL_law_604 : decode cL_law 604 = .ok (.i2l, 1) := by decide +kernel
theorem dL_law_605 : decode cL_law 605 = .ok (.lcmp, 1) := by decide +kernel
theorem dL_law_606 : decode cL_law 606 = .ok (.ifCond .eq 5, 3) := by decide +kernel
theorem dL_law_609 : decode cL_law 609 = .ok (.iconst 0, 1) := by decide +kernel
theorem dL_law_610 : decode cL_law 610 = .ok (.ireturn, 1) := by decide +kernel
theorem dL_law_611 : decode cL_law 611 = .ok (.goto 404, 3) := by decide +kernel
theorem dL_law_614 : decode cL_law 614 = .ok (.aload_n 1, 1) := by decide +kernel
theorem dL_law_615 : decode cL_law 615 = .ok (.aload_n 0, 1) := by decide +kernel
theorem dL_law_616 : decode cL_law 616 = .ok (.iload 4, 2) := by decide +kernel
theorem dL_law_618 : decode cL_law 618 = .ok (.iconst 1, 1) := by decide +kernel
theorem dL_law_619 : decode cL_law 619 = .ok (.iadd, 1) := by decide +kernel
theorem dL_law_620 : decode cL_law 620 = .ok (.iaload, 1) := by decide +kernel
theorem dL_law_621 : decode cL_law 621 = .ok (.aload_n 3, 1) := by decide +kernel
theorem dL_law_622 : decode cL_law 622 = .ok (.invokestatic 121, 3) := by decide +kernel
theorem dL_law_625 : decode cL_law 625 = .ok (.istore 5, 2) := by decide +kernel
theorem dL_law_627 : decode cL_law 627 = .ok (.aload_n 2, 1) := by decide +kernel
theorem dL_law_628 : decode cL_law 628 = .ok (.aload_n 0, 1) := by decide +kernel
theorem dL_law_629 : decode cL_law 629 = .ok (.iload 4, 2) := by decide +kernel
theorem dL_law_631 : decode cL_law 631 = .ok (.iconst 1, 1) := by decide +kernel
theorem dL_law_632 : decode cL_law 632 = .ok (.iadd, 1) := by decide +kernel
theorem dL_law_633 : decode cL_law 633 = .ok (.iaload, 1) := by decide +kernel
theorem dL_law_634 : decode cL_law 634 = .ok (.invokevirtual 123, 3) := by decide +kernel
theorem dL_law_637 : decode cL_law 637 = .ok (.istore 6, 2) := by decide +kernel
theorem dL_law_639 : decode cL_law 639 = .ok (.aload_n 2, 1) := by decide +kernel
theorem dL_law_640 : decode cL_law 640 = .ok (.invokevirtual 68, 3) := by decide +kernel
theorem dL_law_643 : decode cL_law 643 = .ok (.iload 5, 2) := by decide +kernel
theorem dL_law_645 : decode cL_law 645 = .ok (.if_icmp .eq 5, 3) := by decide +kernel
theorem dL_law_648 : decode cL_law 648 = .ok (.iconst 0, 1) := by decide +kernel
theorem dL_law_649 : decode cL_law 649 = .ok (.ireturn, 1) := by decide +kernel
theorem dL_law_650 : decode cL_law 650 = .ok (.iload 5, 2) := by decide +kernel
theorem dL_law_652 : decode cL_law 652 = .ok (.ifCond .ne 15, 3) := by decide +kernel
theorem dL_law_655 : decode cL_law 655 = .ok (.aload_n 3, 1) := by decide +kernel
theorem dL_law_656 : decode cL_law 656 = .ok (.iconst 0, 1) := by decide +kernel
theorem dL_law_657 : decode cL_law 657 = .ok (.laload, 1) := by decide +kernel
theorem dL_law_658 : decode cL_law 658 = .ok (.iload 6, 2) := by decide +kernel
theorem dL_law_660 : decode cL_law 660 = .ok (.i2l, 1) := by decide +kernel
theorem dL_law_661 : decode cL_law 661 = .ok (.lcmp, 1) := by decide +kernel
theorem dL_law_662 : decode cL_law 662 = .ok (.ifCond .eq 5, 3) := by decide +kernel
theorem dL_law_665 : decode cL_law 665 = .ok (.iconst 0, 1) := by decide +kernel
theorem dL_law_666 : decode cL_law 666 = .ok (.ireturn, 1) := by decide +kernel
theorem dL_law_667 : decode cL_law 667 = .ok (.goto 348, 3) := by decide +kernel
theorem dL_law_670 : decode cL_law 670 = .ok (.aload_n 1, 1) := by decide +kernel
theorem dL_law_671 : decode cL_law 671 = .ok (.invokevirtual 124, 3) := by decide +kernel
theorem dL_law_674 : decode cL_law 674 = .ok (.aload_n 2, 1) := by decide +kernel
theorem dL_law_675 : decode cL_law 675 = .ok (.invokevirtual 127, 3) := by decide +kernel
theorem dL_law_678 : decode cL_law 678 = .ok (.if_icmp .eq 337, 3) := by decide +kernel
theorem dL_law_681 : decode cL_law 681 = .ok (.iconst 0, 1) := by decide +kernel
theorem dL_law_682 : decode cL_law 682 = .ok (.ireturn, 1) := by decide +kernel
theorem dL_law_683 : decode cL_law 683 = .ok (.aload_n 1, 1) := by decide +kernel
theorem dL_law_684 : decode cL_law 684 = .ok (.invokevirtual 128, 3) := by decide +kernel
theorem dL_law_687 : decode cL_law 687 = .ok (.aload_n 2, 1) := by decide +kernel
theorem dL_law_688 : decode cL_law 688 = .ok (.invokevirtual 131, 3) := by decide +kernel
theorem dL_law_691 : decode cL_law 691 = .ok (.if_icmp .eq 324, 3) := by decide +kernel
theorem dL_law_694 : decode cL_law 694 = .ok (.iconst 0, 1) := by decide +kernel
theorem dL_law_695 : decode cL_law 695 = .ok (.ireturn, 1) := by decide +kernel
theorem dL_law_696 : decode cL_law 696 = .ok (.aload_n 1, 1) := by decide +kernel
theorem dL_law_697 : decode cL_law 697 = .ok (.invokevirtual 132, 3) := by decide +kernel
theorem dL_law_700 : decode cL_law 700 = .ok (.aload_n 2, 1) := by decide +kernel
theorem dL_law_701 : decode cL_law 701 = .ok (.invokevirtual 135, 3) := by decide +kernel
theorem dL_law_704 : decode cL_law 704 = .ok (.if_icmp .eq 311, 3) := by decide +kernel
theorem dL_law_707 : decode cL_law 707 = .ok (.iconst 0, 1) := by decide +kernel
theorem dL_law_708 : decode cL_law 708 = .ok (.ireturn, 1) := by decide +kernel
theorem dL_law_709 : decode cL_law 709 = .ok (.aload_n 1, 1) := by decide +kernel
theorem dL_law_710 : decode cL_law 710 = .ok (.invokevirtual 136, 3) := by decide +kernel
theorem dL_law_713 : decode cL_law 713 = .ok (.aload_n 2, 1) := by decide +kernel
theorem dL_law_714 : decode cL_law 714 = .ok (.invokevirtual 139, 3) := by decide +kernel
theorem dL_law_717 : decode cL_law 717 = .ok (.if_icmp .eq 298, 3) := by decide +kernel
theorem dL_law_720 : decode cL_law 720 = .ok (.iconst 0, 1) := by decide +kernel
theorem dL_law_721 : decode cL_law 721 = .ok (.ireturn, 1) := by decide +kernel
theorem dL_law_722 : decode cL_law 722 = .ok (.aload_n 1, 1) := by decide +kernel
theorem dL_law_723 : decode cL_law 723 = .ok (.aload_n 0, 1) := by decide +kernel
theorem dL_law_724 : decode cL_law 724 = .ok (.iload 4, 2) := by decide +kernel
theorem dL_law_726 : decode cL_law 726 = .ok (.iconst 1, 1) := by decide +kernel
theorem dL_law_727 : decode cL_law 727 = .ok (.iadd, 1) := by decide +kernel
theorem dL_law_728 : decode cL_law 728 = .ok (.iaload, 1) := by decide +kernel
theorem dL_law_729 : decode cL_law 729 = .ok (.aload_n 3, 1) := by decide +kernel
theorem dL_law_730 : decode cL_law 730 = .ok (.invokestatic 140, 3) := by decide +kernel
theorem dL_law_733 : decode cL_law 733 = .ok (.istore 5, 2) := by decide +kernel
theorem dL_law_735 : decode cL_law 735 = .ok (.aload_n 2, 1) := by decide +kernel
theorem dL_law_736 : decode cL_law 736 = .ok (.aload_n 0, 1) := by decide +kernel
theorem dL_law_737 : decode cL_law 737 = .ok (.iload 4, 2) := by decide +kernel
theorem dL_law_739 : decode cL_law 739 = .ok (.iconst 1, 1) := by decide +kernel
theorem dL_law_740 : decode cL_law 740 = .ok (.iadd, 1) := by decide +kernel
theorem dL_law_741 : decode cL_law 741 = .ok (.iaload, 1) := by decide +kernel
theorem dL_law_742 : decode cL_law 742 = .ok (.invokevirtual 142, 3) := by decide +kernel
theorem dL_law_745 : decode cL_law 745 = .ok (.lstore 6, 2) := by decide +kernel
theorem dL_law_747 : decode cL_law 747 = .ok (.aload_n 2, 1) := by decide +kernel
theorem dL_law_748 : decode cL_law 748 = .ok (.invokevirtual 68, 3) := by decide +kernel
theorem dL_law_751 : decode cL_law 751 = .ok (.iload 5, 2) := by decide +kernel
theorem dL_law_753 : decode cL_law 753 = .ok (.if_icmp .eq 5, 3) := by decide +kernel
theorem dL_law_756 : decode cL_law 756 = .ok (.iconst 0, 1) := by decide +kernel
theorem dL_law_757 : decode cL_law 757 = .ok (.ireturn, 1) := by decide +kernel
theorem dL_law_758 : decode cL_law 758 = .ok (.iload 5, 2) := by decide +kernel
theorem dL_law_760 : decode cL_law 760 = .ok (.ifCond .ne 14, 3) := by decide +kernel
theorem dL_law_763 : decode cL_law 763 = .ok (.aload_n 3, 1) := by decide +kernel
theorem dL_law_764 : decode cL_law 764 = .ok (.iconst 0, 1) := by decide +kernel
theorem dL_law_765 : decode cL_law 765 = .ok (.laload, 1) := by decide +kernel
theorem dL_law_766 : decode cL_law 766 = .ok (.lload 6, 2) := by decide +kernel
theorem dL_law_768 : decode cL_law 768 = .ok (.lcmp, 1) := by decide +kernel
theorem dL_law_769 : decode cL_law 769 = .ok (.ifCond .eq 5, 3) := by decide +kernel
theorem dL_law_772 : decode cL_law 772 = .ok (.iconst 0, 1) := by decide +kernel
theorem dL_law_773 : decode cL_law 773 = .ok (.ireturn, 1) := by decide +kernel
theorem dL_law_774 : decode cL_law 774 = .ok (.goto 241, 3) := by decide +kernel
theorem dL_law_777 : decode cL_law 777 = .ok (.aload_n 1, 1) := by decide +kernel
theorem dL_law_778 : decode cL_law 778 = .ok (.aload_n 0, 1) := by decide +kernel
theorem dL_law_779 : decode cL_law 779 = .ok (.iload 4, 2) := by decide +kernel
theorem dL_law_781 : decode cL_law 781 = .ok (.iconst 1, 1) := by decide +kernel
theorem dL_law_782 : decode cL_law 782 = .ok (.iadd, 1) := by decide +kernel
theorem dL_law_783 : decode cL_law 783 = .ok (.iaload, 1) := by decide +kernel
theorem dL_law_784 : decode cL_law 784 = .ok (.aload_n 0, 1) := by decide +kernel
theorem dL_law_785 : decode cL_law 785 = .ok (.iload 4, 2) := by decide +kernel
theorem dL_law_787 : decode cL_law 787 = .ok (.iconst 2, 1) := by decide +kernel
theorem dL_law_788 : decode cL_law 788 = .ok (.iadd, 1) := by decide +kernel
theorem dL_law_789 : decode cL_law 789 = .ok (.iaload, 1) := by decide +kernel
theorem dL_law_790 : decode cL_law 790 = .ok (.aload_n 3, 1) := by decide +kernel
theorem dL_law_791 : decode cL_law 791 = .ok (.invokestatic 143, 3) := by decide +kernel
theorem dL_law_794 : decode cL_law 794 = .ok (.istore 5, 2) := by decide +kernel
theorem dL_law_796 : decode cL_law 796 = .ok (.aload_n 2, 1) := by decide +kernel
theorem dL_law_797 : decode cL_law 797 = .ok (.aload_n 0, 1) := by decide +kernel
theorem dL_law_798 : decode cL_law 798 = .ok (.iload 4, 2) := by decide +kernel
theorem dL_law_800 : decode cL_law 800 = .ok (.iconst 1, 1) := by decide +kernel
theorem dL_law_801 : decode cL_law 801 = .ok (.iadd, 1) := by decide +kernel
theorem dL_law_802 : decode cL_law 802 = .ok (.iaload, 1) := by decide +kernel
theorem dL_law_803 : decode cL_law 803 = .ok (.aload_n 0, 1) := by decide +kernel
theorem dL_law_804 : decode cL_law 804 = .ok (.iload 4, 2) := by decide +kernel
theorem dL_law_806 : decode cL_law 806 = .ok (.iconst 2, 1) := by decide +kernel
theorem dL_law_807 : decode cL_law 807 = .ok (.iadd, 1) := by decide +kernel
theorem dL_law_808 : decode cL_law 808 = .ok (.iaload, 1) := by decide +kernel
theorem dL_law_809 : decode cL_law 809 = .ok (.invokevirtual 145, 3) := by decide +kernel
theorem dL_law_812 : decode cL_law 812 = .ok (.istore 6, 2) := by decide +kernel
theorem dL_law_814 : decode cL_law 814 = .ok (.aload_n 2, 1) := by decide +kernel
theorem dL_law_815 : decode cL_law 815 = .ok (.invokevirtual 68, 3) := by decide +kernel
theorem dL_law_818 : decode cL_law 818 = .ok (.iload 5, 2) := by decide +kernel
theorem dL_law_820 : decode cL_law 820 = .ok (.if_icmp .eq 5, 3) := by decide +kernel
theorem dL_law_823 : decode cL_law 823 = .ok (.iconst 0, 1) := by decide +kernel
theorem dL_law_824 : decode cL_law 824 = .ok (.ireturn, 1) := by decide +kernel
theorem dL_law_825 : decode cL_law 825 = .ok (.iload 5, 2) := by decide +kernel
theorem dL_law_827 : decode cL_law 827 = .ok (.ifCond .ne 22, 3) := by decide +kernel
theorem dL_law_830 : decode cL_law 830 = .ok (.aload_n 3, 1) := by decide +kernel
theorem dL_law_831 : decode cL_law 831 = .ok (.iconst 0, 1) := by decide +kernel
theorem dL_law_832 : decode cL_law 832 = .ok (.laload, 1) := by decide +kernel
theorem dL_law_833 : decode cL_law 833 = .ok (.iload 6, 2) := by decide +kernel
theorem dL_law_835 : decode cL_law 835 = .ok (.ifCond .eq 7, 3) := by decide +kernel
theorem dL_law_838 : decode cL_law 838 = .ok (.lconst 1, 1) := by decide +kernel
theorem dL_law_839 : decode cL_law 839 = .ok (.goto 4, 3) := by decide +kernel
theorem dL_law_842 : decode cL_law 842 = .ok (.lconst 0, 1) := by decide +kernel
theorem dL_law_843 : decode cL_law 843 = .ok (.lcmp, 1) := by decide +kernel
theorem dL_law_844 : decode cL_law 844 = .ok (.ifCond .eq 5, 3) := by decide +kernel
theorem dL_law_847 : decode cL_law 847 = .ok (.iconst 0, 1) := by decide +kernel
theorem dL_law_848 : decode cL_law 848 = .ok (.ireturn, 1) := by decide +kernel
theorem dL_law_849 : decode cL_law 849 = .ok (.goto 166, 3) := by decide +kernel
theorem dL_law_852 : decode cL_law 852 = .ok (.aload_n 1, 1) := by decide +kernel
theorem dL_law_853 : decode cL_law 853 = .ok (.aload_n 0, 1) := by decide +kernel
theorem dL_law_854 : decode cL_law 854 = .ok (.iload 4, 2) := by decide +kernel
theorem dL_law_856 : decode cL_law 856 = .ok (.iconst 1, 1) := by decide +kernel
theorem dL_law_857 : decode cL_law 857 = .ok (.iadd, 1) := by decide +kernel
theorem dL_law_858 : decode cL_law 858 = .ok (.iaload, 1) := by decide +kernel
theorem dL_law_859 : decode cL_law 859 = .ok (.aload_n 3, 1) := by decide +kernel
theorem dL_law_860 : decode cL_law 860 = .ok (.invokestatic 146, 3) := by decide +kernel
theorem dL_law_863 : decode cL_law 863 = .ok (.istore 5, 2) := by decide +kernel
theorem dL_law_865 : decode cL_law 865 = .ok (.aload_n 2, 1) := by decide +kernel
theorem dL_law_866 : decode cL_law 866 = .ok (.aload_n 0, 1) := by decide +kernel
theorem dL_law_867 : decode cL_law 867 = .ok (.iload 4, 2) := by decide +kernel
theorem dL_law_869 : decode cL_law 869 = .ok (.iconst 1, 1) := by decide +kernel
theorem dL_law_870 : decode cL_law 870 = .ok (.iadd, 1) := by decide +kernel
theorem dL_law_871 : decode cL_law 871 = .ok (.iaload, 1) := by decide +kernel
theorem dL_law_872 : decode cL_law 872 = .ok (.invokevirtual 148, 3) := by decide +kernel
theorem dL_law_875 : decode cL_law 875 = .ok (.istore 6, 2) := by decide +kernel
theorem dL_law_877 : decode cL_law 877 = .ok (.aload_n 2, 1) := by decide +kernel
theorem dL_law_878 : decode cL_law 878 = .ok (.invokevirtual 68, 3) := by decide +kernel
theorem dL_law_881 : decode cL_law 881 = .ok (.iload 5, 2) := by decide +kernel
theorem dL_law_883 : decode cL_law 883 = .ok (.if_icmp .eq 5, 3) := by decide +kernel
theorem dL_law_886 : decode cL_law 886 = .ok (.iconst 0, 1) := by decide +kernel
theorem dL_law_887 : decode cL_law 887 = .ok (.ireturn, 1) := by decide +kernel
theorem dL_law_888 : decode cL_law 888 = .ok (.iload 5, 2) := by decide +kernel
theorem dL_law_890 : decode cL_law 890 = .ok (.ifCond .ne 15, 3) := by decide +kernel
theorem dL_law_893 : decode cL_law 893 = .ok (.aload_n 3, 1) := by decide +kernel
theorem dL_law_894 : decode cL_law 894 = .ok (.iconst 0, 1) := by decide +kernel
theorem dL_law_895 : decode cL_law 895 = .ok (.laload, 1) := by decide +kernel
theorem dL_law_896 : decode cL_law 896 = .ok (.iload 6, 2) := by decide +kernel
theorem dL_law_898 : decode cL_law 898 = .ok (.i2l, 1) := by decide +kernel
theorem dL_law_899 : decode cL_law 899 = .ok (.lcmp, 1) := by decide +kernel
theorem dL_law_900 : decode cL_law 900 = .ok (.ifCond .eq 5, 3) := by decide +kernel
theorem dL_law_903 : decode cL_law 903 = .ok (.iconst 0, 1) := by decide +kernel
theorem dL_law_904 : decode cL_law 904 = .ok (.ireturn, 1) := by decide +kernel
theorem dL_law_905 : decode cL_law 905 = .ok (.goto 110, 3) := by decide +kernel
theorem dL_law_908 : decode cL_law 908 = .ok (.aload_n 1, 1) := by decide +kernel
theorem dL_law_909 : decode cL_law 909 = .ok (.aload_n 3, 1) := by decide +kernel
theorem dL_law_910 : decode cL_law 910 = .ok (.invokestatic 149, 3) := by decide +kernel
theorem dL_law_913 : decode cL_law 913 = .ok (.istore 5, 2) := by decide +kernel
theorem dL_law_915 : decode cL_law 915 = .ok (.aload_n 2, 1) := by decide +kernel
theorem dL_law_916 : decode cL_law 916 = .ok (.invokevirtual 152, 3) := by decide +kernel
theorem dL_law_919 : decode cL_law 919 = .ok (.istore 6, 2) := by decide +kernel
theorem dL_law_921 : decode cL_law 921 = .ok (.aload_n 2, 1) := by decide +kernel
theorem dL_law_922 : decode cL_law 922 = .ok (.invokevirtual 68, 3) := by decide +kernel
theorem dL_law_925 : decode cL_law 925 = .ok (.iload 5, 2) := by decide +kernel
theorem dL_law_927 : decode cL_law 927 = .ok (.if_icmp .eq 5, 3) := by decide +kernel
theorem dL_law_930 : decode cL_law 930 = .ok (.iconst 0, 1) := by decide +kernel
theorem dL_law_931 : decode cL_law 931 = .ok (.ireturn, 1) := by decide +kernel
theorem dL_law_932 : decode cL_law 932 = .ok (.iload 5, 2) := by decide +kernel
theorem dL_law_934 : decode cL_law 934 = .ok (.ifCond .ne 15, 3) := by decide +kernel
theorem dL_law_937 : decode cL_law 937 = .ok (.aload_n 3, 1) := by decide +kernel
theorem dL_law_938 : decode cL_law 938 = .ok (.iconst 0, 1) := by decide +kernel
theorem dL_law_939 : decode cL_law 939 = .ok (.laload, 1) := by decide +kernel
theorem dL_law_940 : decode cL_law 940 = .ok (.iload 6, 2) := by decide +kernel
theorem dL_law_942 : decode cL_law 942 = .ok (.i2l, 1) := by decide +kernel
theorem dL_law_943 : decode cL_law 943 = .ok (.lcmp, 1) := by decide +kernel
theorem dL_law_944 : decode cL_law 944 = .ok (.ifCond .eq 5, 3) := by decide +kernel
theorem dL_law_947 : decode cL_law 947 = .ok (.iconst 0, 1) := by decide +kernel
theorem dL_law_948 : decode cL_law 948 = .ok (.ireturn, 1) := by decide +kernel
theorem dL_law_949 : decode cL_law 949 = .ok (.goto 66, 3) := by decide +kernel
theorem dL_law_952 : decode cL_law 952 = .ok (.aload_n 1, 1) := by decide +kernel
theorem dL_law_953 : decode cL_law 953 = .ok (.aload_n 0, 1) := by decide +kernel
theorem dL_law_954 : decode cL_law 954 = .ok (.iload 4, 2) := by decide +kernel
theorem dL_law_956 : decode cL_law 956 = .ok (.iconst 1, 1) := by decide +kernel
theorem dL_law_957 : decode cL_law 957 = .ok (.iadd, 1) := by decide +kernel
theorem dL_law_958 : decode cL_law 958 = .ok (.iaload, 1) := by decide +kernel
theorem dL_law_959 : decode cL_law 959 = .ok (.aload_n 3, 1) := by decide +kernel
theorem dL_law_960 : decode cL_law 960 = .ok (.invokestatic 153, 3) := by decide +kernel
theorem dL_law_963 : decode cL_law 963 = .ok (.istore 5, 2) := by decide +kernel
theorem dL_law_965 : decode cL_law 965 = .ok (.aload_n 2, 1) := by decide +kernel
theorem dL_law_966 : decode cL_law 966 = .ok (.aload_n 0, 1) := by decide +kernel
theorem dL_law_967 : decode cL_law 967 = .ok (.iload 4, 2) := by decide +kernel
theorem dL_law_969 : decode cL_law 969 = .ok (.iconst 1, 1) := by decide +kernel
theorem dL_law_970 : decode cL_law 970 = .ok (.iadd, 1) := by decide +kernel
theorem dL_law_971 : decode cL_law 971 = .ok (.iaload, 1) := by decide +kernel
theorem dL_law_972 : decode cL_law 972 = .ok (.invokevirtual 155, 3) := by decide +kernel
theorem dL_law_975 : decode cL_law 975 = .ok (.istore 6, 2) := by decide +kernel
theorem dL_law_977 : decode cL_law 977 = .ok (.aload_n 2, 1) := by decide +kernel
theorem dL_law_978 : decode cL_law 978 = .ok (.invokevirtual 68, 3) := by decide +kernel
theorem dL_law_981 : decode cL_law 981 = .ok (.iload 5, 2) := by decide +kernel
theorem dL_law_983 : decode cL_law 983 = .ok (.if_icmp .eq 5, 3) := by decide +kernel
theorem dL_law_986 : decode cL_law 986 = .ok (.iconst 0, 1) := by decide +kernel
theorem dL_law_987 : decode cL_law 987 = .ok (.ireturn, 1) := by decide +kernel
theorem dL_law_988 : decode cL_law 988 = .ok (.iload 5, 2) := by decide +kernel
theorem dL_law_990 : decode cL_law 990 = .ok (.ifCond .ne 22, 3) := by decide +kernel
theorem dL_law_993 : decode cL_law 993 = .ok (.aload_n 3, 1) := by decide +kernel
theorem dL_law_994 : decode cL_law 994 = .ok (.iconst 0, 1) := by decide +kernel
theorem dL_law_995 : decode cL_law 995 = .ok (.laload, 1) := by decide +kernel
theorem dL_law_996 : decode cL_law 996 = .ok (.iload 6, 2) := by decide +kernel
theorem dL_law_998 : decode cL_law 998 = .ok (.ifCond .eq 7, 3) := by decide +kernel
theorem dL_law_1001 : decode cL_law 1001 = .ok (.lconst 1, 1) := by decide +kernel
theorem dL_law_1002 : decode cL_law 1002 = .ok (.goto 4, 3) := by decide +kernel
theorem dL_law_1005 : decode cL_law 1005 = .ok (.lconst 0, 1) := by decide +kernel
theorem dL_law_1006 : decode cL_law 1006 = .ok (.lcmp, 1) := by decide +kernel
theorem dL_law_1007 : decode cL_law 1007 = .ok (.ifCond .eq 5, 3) := by decide +kernel
theorem dL_law_1010 : decode cL_law 1010 = .ok (.iconst 0, 1) := by decide +kernel
theorem dL_law_1011 : decode cL_law 1011 = .ok (.ireturn, 1) := by decide +kernel
theorem dL_law_1012 : decode cL_law 1012 = .ok (.goto 3, 3) := by decide +kernel
theorem dL_law_1015 : decode cL_law 1015 = .ok (.iinc 4 3, 3) := by decide +kernel
theorem dL_law_1018 : decode cL_law 1018 = .ok (.goto (-995), 3) := by decide +kernel
theorem dL_law_1021 : decode cL_law 1021 = .ok (.iconst 1, 1) := by decide +kernel
theorem dL_law_1022 : decode cL_law 1022 = .ok (.ireturn, 1) := by decide +kernel
end
section
/-! THE LIGHT JUDGEMENT jq_J: the kit's W, its premises bundled; the world is a row of n places; the locals are a list by their places. -/
abbrev jq_G : Type := va_G × ClassId × ClassId × ClassId
abbrev jq_M : Type := MethodName × ByteArray × Nat × Option FieldType
abbrev jq_L : Type := List (Option Value)
abbrev jq_E : Type := State → Array Value → (Nat → Prop) → Prop
abbrev jq_Y : Type := List Frame → Array Value → State → (Nat → Prop) → State → Prop
def jq_tys (G : jq_G) : List (ClassId × FieldType) := [(G.2.1, .int), (G.2.2.1, .long), (G.2.2.2, .boolean)]
def jq_wl (n : Nat) (ad : Nat → Nat) (mem : Nat → va_E) : va_W := (List.range n).map (fun k => (ad k, mem k))
theorem jq_wl_get {n : Nat} {ad : Nat → Nat} {mem : Nat → va_E} {k : Nat} (h : k < n) : (jq_wl n ad mem)[k]? = some (ad k, mem k) := by
  simp [jq_wl, List.getElem?_map, List.getElem?_range h]
theorem jq_wl_out {n : Nat} {ad : Nat → Nat} {mem : Nat → va_E} {k : Nat} (h : n ≤ k) : (jq_wl n ad mem)[k]? = none := by
  apply List.getElem?_eq_none
  simpa [jq_wl] using h
theorem jq_wl_len {n : Nat} {ad : Nat → Nat} {mem : Nat → va_E} : (jq_wl n ad mem).length = n := by simp [jq_wl]
theorem jq_wl_set {n : Nat} {ad : Nat → Nat} {mem : Nat → va_E} {k : Nat} {e : va_E} (h : k < n) : (jq_wl n ad mem).set k (ad k, e) = jq_wl n ad (va_up mem k e) := by
  apply List.ext_getElem?
  intro i
  by_cases hi : i < n
  · by_cases hk : i = k
    · subst hk
      rw [List.getElem?_set_self (by rw [jq_wl_len]; exact hi), jq_wl_get hi, va_up_self]
    · rw [List.getElem?_set_ne (Ne.symm hk), jq_wl_get hi, jq_wl_get hi, va_up_ne _ _ hk]
  · rw [jq_wl_out (Nat.le_of_not_lt hi), List.getElem?_eq_none]
    rw [List.length_set, jq_wl_len]
    exact Nat.le_of_not_lt hi
theorem jq_wl_push {n : Nat} {ad : Nat → Nat} {mem : Nat → va_E} {q : Nat} {e : va_E} : jq_wl n ad mem ++ [(q, e)] = jq_wl (n + 1) (va_up ad n q) (va_up mem n e) := by
  apply List.ext_getElem?
  intro i
  rcases Nat.lt_trichotomy i n with hi | hi | hi
  · rw [List.getElem?_append_left (by rw [jq_wl_len]; exact hi), jq_wl_get hi, jq_wl_get (Nat.lt_succ_of_lt hi), va_up_ne _ _ (Nat.ne_of_lt hi), va_up_ne _ _ (Nat.ne_of_lt hi)]
  · subst hi
    rw [List.getElem?_append_right (by rw [jq_wl_len]; exact Nat.le_refl _), jq_wl_len, Nat.sub_self, jq_wl_get (Nat.lt_succ_self _), va_up_self, va_up_self]
    rfl
  · rw [jq_wl_out hi, List.getElem?_eq_none]
    rw [List.length_append, jq_wl_len]
    exact hi
theorem jq_wl_congr {n : Nat} {ad ad' : Nat → Nat} {mem mem' : Nat → va_E} (h : ∀ k, k < n → ad k = ad' k ∧ mem k = mem' k) : jq_wl n ad mem = jq_wl n ad' mem' := by
  apply List.ext_getElem?
  intro i
  rcases Nat.lt_or_ge i n with hi | hi
  · rw [jq_wl_get hi, jq_wl_get hi, (h i hi).1, (h i hi).2]
  · rw [jq_wl_out hi, jq_wl_out hi]
/-- the held places of a list of locals -/
def jq_ls : Nat → jq_L → List (Nat × Value)
  | _, [] => []
  | k, none :: L => jq_ls (k + 1) L
  | k, some v :: L => (k, v) :: jq_ls (k + 1) L
theorem jq_ls_iff {v : Value} : ∀ {L : jq_L} {k i : Nat}, (i, v) ∈ jq_ls k L ↔ k ≤ i ∧ L[i - k]? = some (some v)
  | [], k, i => by simp [jq_ls]
  | o :: L, k, i => by
    have ih := @jq_ls_iff v L (k + 1) i
    have key : (k + 1 ≤ i ∧ L[i - (k + 1)]? = some (some v)) ↔ (k < i ∧ (o :: L)[i - k]? = some (some v)) := by
      constructor
      · rintro ⟨h1, h2⟩
        refine ⟨h1, ?_⟩
        rw [show i - k = (i - (k + 1)) + 1 by omega, List.getElem?_cons_succ]
        exact h2
      · rintro ⟨h1, h2⟩
        refine ⟨h1, ?_⟩
        rw [show i - k = (i - (k + 1)) + 1 by omega, List.getElem?_cons_succ] at h2
        exact h2
    have heq : k = i → (o :: L)[i - k]? = some o := by rintro rfl; simp
    cases o with
    | none =>
      rw [jq_ls, ih, key]
      constructor
      · rintro ⟨h1, h2⟩; exact ⟨by omega, h2⟩
      · rintro ⟨h1, h2⟩
        refine ⟨?_, h2⟩
        rcases Nat.lt_or_ge k i with h | h
        · exact h
        · have e : k = i := by omega
          rw [heq e] at h2
          cases h2
    | some w =>
      rw [jq_ls, List.mem_cons, ih, key]
      constructor
      · rintro (h | ⟨h1, h2⟩)
        · cases h
          exact ⟨Nat.le_refl _, by simp⟩
        · exact ⟨by omega, h2⟩
      · rintro ⟨h1, h2⟩
        rcases Nat.lt_or_ge k i with h | h
        · exact Or.inr ⟨h, h2⟩
        · have e : k = i := by omega
          rw [heq e] at h2
          cases h2
          exact Or.inl (by rw [e])
theorem jq_ls_in {v : Value} {L : jq_L} {i : Nat} : (i, v) ∈ jq_ls 0 L ↔ L[i]? = some (some v) := by
  rw [jq_ls_iff]
  simp
def jq_lh (ls : Array Slot) (nL : Nat) (L : jq_L) : Prop := lv_has ls nL (jq_ls 0 L)
theorem jq_lh_at {ls : Array Slot} {nL : Nat} {L : jq_L} (h : jq_lh ls nL L) {i : Nat} {v : Value} (hk : L[i]? = some (some v)) : ls[i]? = some (.val v) := h.2.2 (i, v) (jq_ls_in.mpr hk)
theorem jq_lh_mono {ls : Array Slot} {nL : Nat} {L L' : jq_L} (h : jq_lh ls nL L) (hs : ∀ (i : Nat) (v : Value), L'[i]? = some (some v) → L[i]? = some (some v)) : jq_lh ls nL L' :=
  ⟨h.1, h.2.1, fun q hq => h.2.2 q (jq_ls_in.mpr (hs q.1 q.2 (jq_ls_in.mp hq)))⟩
/-- L' holds at most what L holds -/
def jq_le : jq_L → jq_L → Prop
  | [], _ => True
  | none :: L', [] => jq_le L' []
  | none :: L', _ :: L => jq_le L' L
  | some _ :: _, [] => False
  | some v :: L', o :: L => some v = o ∧ jq_le L' L
theorem jq_le_at : ∀ {L' L : jq_L}, jq_le L' L → ∀ (i : Nat) (v : Value), L'[i]? = some (some v) → L[i]? = some (some v)
  | [], _, _, i, v, h => by simp at h
  | none :: L', [], hl, 0, v, h => by simp at h
  | none :: L', [], hl, i + 1, v, h => by
    rw [List.getElem?_cons_succ] at h
    have := jq_le_at (L' := L') (L := []) (by simpa [jq_le] using hl) i v h
    simp at this
  | none :: L', o :: L, hl, 0, v, h => by simp at h
  | none :: L', o :: L, hl, i + 1, v, h => by
    rw [List.getElem?_cons_succ] at h ⊢
    exact jq_le_at (by simpa [jq_le] using hl) i v h
  | some w :: L', [], hl, i, v, h => by simp [jq_le] at hl
  | some w :: L', o :: L, hl, 0, v, h => by
    obtain ⟨h1, -⟩ := (by simpa only [jq_le] using hl : some w = o ∧ jq_le L' L)
    rw [List.getElem?_cons_zero] at h ⊢
    rw [← h1]; exact h
  | some w :: L', o :: L, hl, i + 1, v, h => by
    obtain ⟨-, h2⟩ := (by simpa only [jq_le] using hl : some w = o ∧ jq_le L' L)
    rw [List.getElem?_cons_succ] at h ⊢
    exact jq_le_at h2 i v h
def jq_ok1 (L : jq_L) : Nat → Bool
  | 0 => true
  | j + 1 => match L[j]? with
    | some (some v) => v.category != 2
    | _ => true
theorem jq_lh_set1 {ls : Array Slot} {nL i : Nat} {L : jq_L} {v : Value} (hk : jq_ok1 L i = true) (h : lv_has ls nL ((i, v) :: (jq_ls 0 L).filter (fun q => !(q.1 == i) && !(q.1 + 1 == i && q.2.category == 2)))) : jq_lh ls nL (L.set i (some v)) := by
  refine ⟨h.1, h.2.1, fun q hq => h.2.2 q ?_⟩
  obtain ⟨j, w⟩ := q
  have h1 := jq_ls_in.mp hq
  by_cases hj : j = i
  · subst hj
    have hl : j < L.length := by
      rcases Nat.lt_or_ge j L.length with z | z
      · exact z
      · rw [List.getElem?_eq_none (by rw [List.length_set]; exact z)] at h1; cases h1
    rw [List.getElem?_set_self hl] at h1
    cases h1
    exact List.mem_cons_self
  · rw [List.getElem?_set_ne (Ne.symm hj)] at h1
    refine List.mem_cons_of_mem _ (List.mem_filter.mpr ⟨jq_ls_in.mpr h1, ?_⟩)
    have e1 : (j == i) = false := by simpa using hj
    have e2 : (j + 1 == i && w.category == 2) = false := by
      by_cases e : j + 1 = i
      · subst e
        simp only [jq_ok1, h1] at hk
        have h2 : w.category ≠ 2 := by simpa using hk
        simp [h2]
      · simp [e]
    show (!(j == i) && !(j + 1 == i && w.category == 2)) = true
    rw [e1, e2]; rfl
theorem jq_lh_set2 {ls : Array Slot} {nL i : Nat} {L : jq_L} {v : Value} (hk : jq_ok1 L i = true) (h : lv_has ls nL ((i, v) :: (jq_ls 0 L).filter (fun q => !(q.1 == i) && (!(q.1 == i + 1) && !(q.1 + 1 == i && q.2.category == 2))))) : jq_lh ls nL ((L.set i (some v)).set (i + 1) none) := by
  refine ⟨h.1, h.2.1, fun q hq => h.2.2 q ?_⟩
  obtain ⟨j, w⟩ := q
  have h0 := jq_ls_in.mp hq
  have hj1 : j ≠ i + 1 := by
    rintro rfl
    rcases Nat.lt_or_ge (i + 1) (L.set i (some v)).length with z | z
    · rw [List.getElem?_set_self z] at h0; cases h0
    · rw [List.getElem?_eq_none (by rw [List.length_set]; exact z)] at h0; cases h0
  rw [List.getElem?_set_ne (Ne.symm hj1)] at h0
  have h1 := h0
  by_cases hj : j = i
  · subst hj
    have hl : j < L.length := by
      rcases Nat.lt_or_ge j L.length with z | z
      · exact z
      · rw [List.getElem?_eq_none (by rw [List.length_set]; exact z)] at h1; cases h1
    rw [List.getElem?_set_self hl] at h1
    cases h1
    exact List.mem_cons_self
  · rw [List.getElem?_set_ne (Ne.symm hj)] at h1
    refine List.mem_cons_of_mem _ (List.mem_filter.mpr ⟨jq_ls_in.mpr h1, ?_⟩)
    have e1 : (j == i) = false := by simpa using hj
    have e3 : (j == i + 1) = false := by simpa using hj1
    have e2 : (j + 1 == i && w.category == 2) = false := by
      by_cases e : j + 1 = i
      · subst e
        simp only [jq_ok1, h1] at hk
        have h2 : w.category ≠ 2 := by simpa using hk
        simp [h2]
      · simp [e]
    show (!(j == i) && (!(j == i + 1) && !(j + 1 == i && w.category == 2))) = true
    rw [e1, e2, e3]; rfl
/-- the locals at a method's entry -/
def jq_ent : List Value → jq_L
  | [] => []
  | v :: vs => if v.category = 2 then some v :: none :: jq_ent vs else some v :: jq_ent vs
theorem jq_ent_args : ∀ (vs : List Value) (k i : Nat) (v : Value), (jq_ent vs)[i]? = some (some v) → (k + i, v) ∈ lv_args k vs
  | [], k, i, v, h => by simp [jq_ent] at h
  | w :: vs, k, i, v, h => by
    by_cases hc : w.category = 2
    · simp only [jq_ent, hc, if_true] at h
      match i, h with
      | 0, h => cases h; exact List.mem_cons_self
      | 1, h => cases h
      | i + 2, h =>
        rw [List.getElem?_cons_succ, List.getElem?_cons_succ] at h
        have h2 := jq_ent_args vs (k + 2) i v h
        simp only [lv_args, hc, if_true]
        rw [show k + (i + 2) = k + 2 + i by omega]
        exact List.mem_cons_of_mem _ h2
    · simp only [jq_ent, hc, if_false] at h
      match i, h with
      | 0, h => cases h; exact List.mem_cons_self
      | i + 1, h =>
        rw [List.getElem?_cons_succ] at h
        have h2 := jq_ent_args vs (k + 1) i v h
        simp only [lv_args, hc, if_false]
        rw [show k + (i + 1) = k + 1 + i by omega]
        exact List.mem_cons_of_mem _ h2
theorem jq_lh_entry {vs : List Value} {n : Nat} {ls : Array Slot} (h : lv_has ls n (lv_args 0 vs)) : jq_lh ls n (jq_ent vs) :=
  ⟨h.1, h.2.1, fun q hq => h.2.2 q (by have := jq_ent_args vs 0 q.1 q.2 (jq_ls_in.mp hq); simpa using this)⟩
/-! the tables' words -/
def jq_big : List Cond := lw_tbl.filter goodWord
def jq_isN : Cond → Bool
  | .fieldLinkNest .. => true
  | .methodLinkNest .. => true
  | _ => false
def jq_nst : List Cond := lw_tbl.filter jq_isN
def jq_N (U : State) : Prop := ∀ w ∈ jq_nst, va_Nw w U
theorem jq_N.warm {s U : State} (hW : s.WarmedH U.vm) (h : jq_N s) : jq_N U := by
  intro w hw
  have h1 := h w hw
  have h2 : jq_isN w = true := (List.mem_filter.mp hw).2
  cases w <;> first | exact va_Nw.warmF hW h1 | exact va_Nw.warmM hW h1 | (simp [jq_isN] at h2)
theorem jq_N.same {u U : State} (hv : u.vm = U.vm) (h : jq_N u) : jq_N U := by
  intro w hw
  have h1 := h w hw
  have h2 : jq_isN w = true := (List.mem_filter.mp hw).2
  cases w <;> first | exact va_Nw.same rfl hv h1 | (simp [jq_isN] at h2)
def jq_ws (M : jq_M) : List Cond := .code M.1 M.2.1 M.2.2.1 M.2.2.2 :: jq_big
theorem jq_good : GoodIn jq_big jq_big := fun w hw => ⟨hw, good_of_word (List.mem_filter.mp hw).2⟩
theorem jq_big_in {w : Cond} (h : w ∈ lw_tbl) (hg : goodWord w = true) : w ∈ jq_big := List.mem_filter.mpr ⟨h, hg⟩
theorem jq_nst_in {w : Cond} (h : w ∈ lw_tbl) (hg : jq_isN w = true) : w ∈ jq_nst := List.mem_filter.mpr ⟨h, hg⟩
/-! the judgement -/
def jq_Cx (G : jq_G) (M : jq_M) (p : Program) (s : State) (m : MethodId) (args : Array Value) (meth : Method) (c : Code) (A : Nat → Prop) : Prop :=
  (p.tables.exec = Jvm.exec ∧ c.code = M.2.1 ∧ c.maxLocals = M.2.2.1 ∧ s.vm.findClass M.1.cls = some m.cls) ∧ (∀ w ∈ jq_big, w.before args s = true) ∧ va_K G.1 vwCl (jq_tys G) s ∧ jq_N s ∧ (∀ q, s.heap.size ≤ q → A q) ∧ meth.sig.returnType = M.2.2.2 ∧ meth.locks = false ∧ meth.name = M.1.name
def jq_J (l : Launch) (G : jq_G) (M : jq_M) (R : Room) (Ex : jq_E) (Y : jq_Y) (pc : Nat) (L : jq_L) (st : List Value) (n : Nat) (ad : Nat → Nat) (mem : Nat → va_E) (cells slots : Nat) : Prop :=
  ∀ (p : Program) (e : Env) (s : State) (m : MethodId) (args : Array Value) (below : List Frame) (meth : Method) (c : Code) (A : Nat → Prop), jq_Cx G M p s m args meth c A → Ex s args A →
  ∀ (H : Heap) (locs : List Loc) (ls : Array Slot), jq_lh ls M.2.2.1 L → va_P G.1 vwCl (jq_wl n ad mem) H → va_D A (jq_wl n ad mem) → va_S A s.heap H locs →
  W p l e R s m args below meth c H locs cells slots (Y below args s A) (F0 m pc ls st)
section JQ
variable {l : Launch} {G : jq_G} {M : jq_M} {R : Room} {Ex : jq_E} {Y : jq_Y} {pc : Nat} {L : jq_L} {st : List Value} {n : Nat} {ad : Nat → Nat} {mem : Nat → va_E} {cells slots : Nat}
theorem jq_wk {L' : jq_L} (h : jq_le L' L) (k : jq_J l G M R Ex Y pc L' st n ad mem cells slots) : jq_J l G M R Ex Y pc L st n ad mem cells slots :=
  fun p e s m args below meth c A hC hE H locs ls hl hP hD hS => k p e s m args below meth c A hC hE H locs ls (jq_lh_mono hl (jq_le_at h)) hP hD hS
theorem jq_nm {α : Type} {P : α → Prop} (x : α) (k : ∀ y, y = x → P y) : P x := k x rfl
theorem jq_mem {mem' : Nat → va_E} {ad' : Nat → Nat} (h : ∀ k, k < n → ad k = ad' k ∧ mem k = mem' k) (k : jq_J l G M R Ex Y pc L st n ad' mem' cells slots) : jq_J l G M R Ex Y pc L st n ad mem cells slots := by
  intro p e s m args below meth c A hC hE H locs ls hl hP hD hS
  rw [jq_wl_congr h] at hP hD
  exact k p e s m args below meth c A hC hE H locs ls hl hP hD hS

theorem jq_iconst {z : Int} {v : Int32} (hd : decode M.2.1 pc = .ok (.iconst z, 1)) (hv : Int32.ofInt z = v) (k : jq_J l G M R Ex Y (pc + 1) L (.int v :: st) n ad mem cells slots) : jq_J l G M R Ex Y pc L st n ad mem cells slots :=
  fun p e s m args below meth c A hC hE H locs ls hl hP hD hS => lv_iconst hC.1.1 hC.1.2.1 hd hv (k p e s m args below meth c A hC hE H locs ls hl hP hD hS)
theorem jq_bipush {z : Int} {v : Int32} (hd : decode M.2.1 pc = .ok (.bipush z, 2)) (hv : (Int8.ofInt z).toInt32 = v) (k : jq_J l G M R Ex Y (pc + 2) L (.int v :: st) n ad mem cells slots) : jq_J l G M R Ex Y pc L st n ad mem cells slots :=
  fun p e s m args below meth c A hC hE H locs ls hl hP hD hS => lv_bipush hC.1.1 hC.1.2.1 hd hv (k p e s m args below meth c A hC hE H locs ls hl hP hD hS)
theorem jq_sipush {z : Int} {v : Int32} (hd : decode M.2.1 pc = .ok (.sipush z, 3)) (hv : (Int16.ofInt z).toInt32 = v) (k : jq_J l G M R Ex Y (pc + 3) L (.int v :: st) n ad mem cells slots) : jq_J l G M R Ex Y pc L st n ad mem cells slots :=
  fun p e s m args below meth c A hC hE H locs ls hl hP hD hS => lv_sipush hC.1.1 hC.1.2.1 hd hv (k p e s m args below meth c A hC hE H locs ls hl hP hD hS)
theorem jq_lconst {z : Fin 2} {v : Int64} (hd : decode M.2.1 pc = .ok (.lconst z, 1)) (hv : Int64.ofNat (z : Nat) = v) (k : jq_J l G M R Ex Y (pc + 1) L (.long v :: st) n ad mem cells slots) : jq_J l G M R Ex Y pc L st n ad mem cells slots :=
  fun p e s m args below meth c A hC hE H locs ls hl hP hD hS => lv_lconst hC.1.1 hC.1.2.1 hd hv (k p e s m args below meth c A hC hE H locs ls hl hP hD hS)
theorem jq_ldc2 {ix : Nat} {v : Int64} (hd : decode M.2.1 pc = .ok (.ldc2_w ix, 3)) (hv : Cond.constantLong M.1.cls ix v ∈ jq_big) (k : jq_J l G M R Ex Y (pc + 3) L (.long v :: st) n ad mem cells slots) : jq_J l G M R Ex Y pc L st n ad mem cells slots :=
  fun p e s m args below meth c A hC hE H locs ls hl hP hD hS => lv_ldc2 hC.1.1 hC.1.2.1 hC.1.2.2.2 (hC.2.1 _ hv) hd (k p e s m args below meth c A hC hE H locs ls hl hP hD hS)
theorem jq_iload_n {z : Fin 4} {i : Nat} {x : Int32} (hd : decode M.2.1 pc = .ok (.iload_n z, 1)) (hi : (z : Nat) = i) (hx : L[i]? = some (some (.int x))) (k : jq_J l G M R Ex Y (pc + 1) L (.int x :: st) n ad mem cells slots) : jq_J l G M R Ex Y pc L st n ad mem cells slots :=
  fun p e s m args below meth c A hC hE H locs ls hl hP hD hS => lv_iload_n hC.1.1 hC.1.2.1 hd hi (jq_lh_at hl hx) (k p e s m args below meth c A hC hE H locs ls hl hP hD hS)
theorem jq_iload {i : Nat} {x : Int32} (hd : decode M.2.1 pc = .ok (.iload i, 2)) (hx : L[i]? = some (some (.int x))) (k : jq_J l G M R Ex Y (pc + 2) L (.int x :: st) n ad mem cells slots) : jq_J l G M R Ex Y pc L st n ad mem cells slots :=
  fun p e s m args below meth c A hC hE H locs ls hl hP hD hS => lv_iload hC.1.1 hC.1.2.1 hd (jq_lh_at hl hx) (k p e s m args below meth c A hC hE H locs ls hl hP hD hS)
theorem jq_lload_n {z : Fin 4} {i : Nat} {x : Int64} (hd : decode M.2.1 pc = .ok (.lload_n z, 1)) (hi : (z : Nat) = i) (hx : L[i]? = some (some (.long x))) (k : jq_J l G M R Ex Y (pc + 1) L (.long x :: st) n ad mem cells slots) : jq_J l G M R Ex Y pc L st n ad mem cells slots :=
  fun p e s m args below meth c A hC hE H locs ls hl hP hD hS => lv_lload_n hC.1.1 hC.1.2.1 hd hi (jq_lh_at hl hx) (k p e s m args below meth c A hC hE H locs ls hl hP hD hS)
theorem jq_lload {i : Nat} {x : Int64} (hd : decode M.2.1 pc = .ok (.lload i, 2)) (hx : L[i]? = some (some (.long x))) (k : jq_J l G M R Ex Y (pc + 2) L (.long x :: st) n ad mem cells slots) : jq_J l G M R Ex Y pc L st n ad mem cells slots :=
  fun p e s m args below meth c A hC hE H locs ls hl hP hD hS => lv_lload hC.1.1 hC.1.2.1 hd (jq_lh_at hl hx) (k p e s m args below meth c A hC hE H locs ls hl hP hD hS)
theorem jq_aload_n {z : Fin 4} {i x : Nat} (hd : decode M.2.1 pc = .ok (.aload_n z, 1)) (hi : (z : Nat) = i) (hx : L[i]? = some (some (.ref x))) (k : jq_J l G M R Ex Y (pc + 1) L (.ref x :: st) n ad mem cells slots) : jq_J l G M R Ex Y pc L st n ad mem cells slots :=
  fun p e s m args below meth c A hC hE H locs ls hl hP hD hS => lv_aload_n hC.1.1 hC.1.2.1 hd hi (jq_lh_at hl hx) (k p e s m args below meth c A hC hE H locs ls hl hP hD hS)
theorem jq_aload {i x : Nat} (hd : decode M.2.1 pc = .ok (.aload i, 2)) (hx : L[i]? = some (some (.ref x))) (k : jq_J l G M R Ex Y (pc + 2) L (.ref x :: st) n ad mem cells slots) : jq_J l G M R Ex Y pc L st n ad mem cells slots :=
  fun p e s m args below meth c A hC hE H locs ls hl hP hD hS => lv_aload hC.1.1 hC.1.2.1 hd (jq_lh_at hl hx) (k p e s m args below meth c A hC hE H locs ls hl hP hD hS)
theorem jq_istore_n {z : Fin 4} {i : Nat} {x : Int32} {L2 : jq_L} (hd : decode M.2.1 pc = .ok (.istore_n z, 1)) (hi : (z : Nat) = i) (hb : i < M.2.2.1) (ho : jq_ok1 L i = true) (hL : (L.set i (some (.int x))) = L2) (k : jq_J l G M R Ex Y (pc + 1) L2 st n ad mem cells slots) : jq_J l G M R Ex Y pc L (.int x :: st) n ad mem cells slots :=
  fun p e s m args below meth c A hC hE H locs ls hl hP hD hS => lv_istore_n hC.1.1 hC.1.2.1 hd hi hl hb rfl (fun ls hl => k p e s m args below meth c A hC hE H locs ls (hL ▸ jq_lh_set1 ho hl) hP hD hS)
theorem jq_istore {i : Nat} {x : Int32} {L2 : jq_L} (hd : decode M.2.1 pc = .ok (.istore i, 2)) (hb : i < M.2.2.1) (ho : jq_ok1 L i = true) (hL : (L.set i (some (.int x))) = L2) (k : jq_J l G M R Ex Y (pc + 2) L2 st n ad mem cells slots) : jq_J l G M R Ex Y pc L (.int x :: st) n ad mem cells slots :=
  fun p e s m args below meth c A hC hE H locs ls hl hP hD hS => lv_istore hC.1.1 hC.1.2.1 hd hl hb rfl (fun ls hl => k p e s m args below meth c A hC hE H locs ls (hL ▸ jq_lh_set1 ho hl) hP hD hS)
theorem jq_lstore_n {z : Fin 4} {i : Nat} {x : Int64} {L2 : jq_L} (hd : decode M.2.1 pc = .ok (.lstore_n z, 1)) (hi : (z : Nat) = i) (hb : i + 1 < M.2.2.1) (ho : jq_ok1 L i = true) (hL : ((L.set i (some (.long x))).set (i + 1) none) = L2) (k : jq_J l G M R Ex Y (pc + 1) L2 st n ad mem cells slots) : jq_J l G M R Ex Y pc L (.long x :: st) n ad mem cells slots :=
  fun p e s m args below meth c A hC hE H locs ls hl hP hD hS => lv_lstore_n hC.1.1 hC.1.2.1 hd hi hl hb rfl (fun ls hl => k p e s m args below meth c A hC hE H locs ls (hL ▸ jq_lh_set2 ho hl) hP hD hS)
theorem jq_lstore {i : Nat} {x : Int64} {L2 : jq_L} (hd : decode M.2.1 pc = .ok (.lstore i, 2)) (hb : i + 1 < M.2.2.1) (ho : jq_ok1 L i = true) (hL : ((L.set i (some (.long x))).set (i + 1) none) = L2) (k : jq_J l G M R Ex Y (pc + 2) L2 st n ad mem cells slots) : jq_J l G M R Ex Y pc L (.long x :: st) n ad mem cells slots :=
  fun p e s m args below meth c A hC hE H locs ls hl hP hD hS => lv_lstore hC.1.1 hC.1.2.1 hd hl hb rfl (fun ls hl => k p e s m args below meth c A hC hE H locs ls (hL ▸ jq_lh_set2 ho hl) hP hD hS)
theorem jq_astore_n {z : Fin 4} {i : Nat} {x : Nat} {L2 : jq_L} (hd : decode M.2.1 pc = .ok (.astore_n z, 1)) (hi : (z : Nat) = i) (hb : i < M.2.2.1) (ho : jq_ok1 L i = true) (hL : (L.set i (some (.ref x))) = L2) (k : jq_J l G M R Ex Y (pc + 1) L2 st n ad mem cells slots) : jq_J l G M R Ex Y pc L (.ref x :: st) n ad mem cells slots :=
  fun p e s m args below meth c A hC hE H locs ls hl hP hD hS => lv_astore_n hC.1.1 hC.1.2.1 hd hi hl hb rfl (fun ls hl => k p e s m args below meth c A hC hE H locs ls (hL ▸ jq_lh_set1 ho hl) hP hD hS)
theorem jq_astore {i : Nat} {x : Nat} {L2 : jq_L} (hd : decode M.2.1 pc = .ok (.astore i, 2)) (hb : i < M.2.2.1) (ho : jq_ok1 L i = true) (hL : (L.set i (some (.ref x))) = L2) (k : jq_J l G M R Ex Y (pc + 2) L2 st n ad mem cells slots) : jq_J l G M R Ex Y pc L (.ref x :: st) n ad mem cells slots :=
  fun p e s m args below meth c A hC hE H locs ls hl hP hD hS => lv_astore hC.1.1 hC.1.2.1 hd hl hb rfl (fun ls hl => k p e s m args below meth c A hC hE H locs ls (hL ▸ jq_lh_set1 ho hl) hP hD hS)
theorem jq_iinc {i : Nat} {z : Int} {x v : Int32} {L2 : jq_L} (hd : decode M.2.1 pc = .ok (.iinc i z, 3)) (hb : i < M.2.2.1) (ho : jq_ok1 L i = true) (hx : L[i]? = some (some (.int x))) (hv : x + Int32.ofInt z = v) (hL : L.set i (some (.int v)) = L2) (k : jq_J l G M R Ex Y (pc + 3) L2 st n ad mem cells slots) : jq_J l G M R Ex Y pc L st n ad mem cells slots := by
  intro p e s m args below meth c A hC hE H locs ls hl hP hD hS
  obtain ⟨j, hj⟩ := List.getElem?_of_mem (jq_ls_in.mpr hx)
  exact lv_iinc hC.1.1 hC.1.2.1 hd hl hj hv hb rfl (fun ls hl => k p e s m args below meth c A hC hE H locs ls (hL ▸ jq_lh_set1 ho hl) hP hD hS)
theorem jq_iadd {x y : Int32} (hd : decode M.2.1 pc = .ok (.iadd, 1)) (k : jq_J l G M R Ex Y (pc + 1) L (.int (x + y) :: st) n ad mem cells slots) : jq_J l G M R Ex Y pc L (.int y :: .int x :: st) n ad mem cells slots :=
  fun p e s m args below meth c A hC hE H locs ls hl hP hD hS => lv_iadd hC.1.1 hC.1.2.1 hd (k p e s m args below meth c A hC hE H locs ls hl hP hD hS)
theorem jq_isub {x y : Int32} (hd : decode M.2.1 pc = .ok (.isub, 1)) (k : jq_J l G M R Ex Y (pc + 1) L (.int (x - y) :: st) n ad mem cells slots) : jq_J l G M R Ex Y pc L (.int y :: .int x :: st) n ad mem cells slots :=
  fun p e s m args below meth c A hC hE H locs ls hl hP hD hS => lv_isub hC.1.1 hC.1.2.1 hd (k p e s m args below meth c A hC hE H locs ls hl hP hD hS)
theorem jq_imul {x y : Int32} (hd : decode M.2.1 pc = .ok (.imul, 1)) (k : jq_J l G M R Ex Y (pc + 1) L (.int (x * y) :: st) n ad mem cells slots) : jq_J l G M R Ex Y pc L (.int y :: .int x :: st) n ad mem cells slots :=
  fun p e s m args below meth c A hC hE H locs ls hl hP hD hS => lv_imul hC.1.1 hC.1.2.1 hd (k p e s m args below meth c A hC hE H locs ls hl hP hD hS)
theorem jq_iand {x y : Int32} (hd : decode M.2.1 pc = .ok (.iand, 1)) (k : jq_J l G M R Ex Y (pc + 1) L (.int (x &&& y) :: st) n ad mem cells slots) : jq_J l G M R Ex Y pc L (.int y :: .int x :: st) n ad mem cells slots :=
  fun p e s m args below meth c A hC hE H locs ls hl hP hD hS => lv_iand hC.1.1 hC.1.2.1 hd (k p e s m args below meth c A hC hE H locs ls hl hP hD hS)
theorem jq_ior {x y : Int32} (hd : decode M.2.1 pc = .ok (.ior, 1)) (k : jq_J l G M R Ex Y (pc + 1) L (.int (x ||| y) :: st) n ad mem cells slots) : jq_J l G M R Ex Y pc L (.int y :: .int x :: st) n ad mem cells slots :=
  fun p e s m args below meth c A hC hE H locs ls hl hP hD hS => lv_ior hC.1.1 hC.1.2.1 hd (k p e s m args below meth c A hC hE H locs ls hl hP hD hS)
theorem jq_ixor {x y : Int32} (hd : decode M.2.1 pc = .ok (.ixor, 1)) (k : jq_J l G M R Ex Y (pc + 1) L (.int (x ^^^ y) :: st) n ad mem cells slots) : jq_J l G M R Ex Y pc L (.int y :: .int x :: st) n ad mem cells slots :=
  fun p e s m args below meth c A hC hE H locs ls hl hP hD hS => lv_ixor hC.1.1 hC.1.2.1 hd (k p e s m args below meth c A hC hE H locs ls hl hP hD hS)
theorem jq_ladd {x y : Int64} (hd : decode M.2.1 pc = .ok (.ladd, 1)) (k : jq_J l G M R Ex Y (pc + 1) L (.long (x + y) :: st) n ad mem cells slots) : jq_J l G M R Ex Y pc L (.long y :: .long x :: st) n ad mem cells slots :=
  fun p e s m args below meth c A hC hE H locs ls hl hP hD hS => lv_ladd hC.1.1 hC.1.2.1 hd (k p e s m args below meth c A hC hE H locs ls hl hP hD hS)
theorem jq_lsub {x y : Int64} (hd : decode M.2.1 pc = .ok (.lsub, 1)) (k : jq_J l G M R Ex Y (pc + 1) L (.long (x - y) :: st) n ad mem cells slots) : jq_J l G M R Ex Y pc L (.long y :: .long x :: st) n ad mem cells slots :=
  fun p e s m args below meth c A hC hE H locs ls hl hP hD hS => lv_lsub hC.1.1 hC.1.2.1 hd (k p e s m args below meth c A hC hE H locs ls hl hP hD hS)
theorem jq_land {x y : Int64} (hd : decode M.2.1 pc = .ok (.land, 1)) (k : jq_J l G M R Ex Y (pc + 1) L (.long (x &&& y) :: st) n ad mem cells slots) : jq_J l G M R Ex Y pc L (.long y :: .long x :: st) n ad mem cells slots :=
  fun p e s m args below meth c A hC hE H locs ls hl hP hD hS => lv_land hC.1.1 hC.1.2.1 hd (k p e s m args below meth c A hC hE H locs ls hl hP hD hS)
theorem jq_lor {x y : Int64} (hd : decode M.2.1 pc = .ok (.lor, 1)) (k : jq_J l G M R Ex Y (pc + 1) L (.long (x ||| y) :: st) n ad mem cells slots) : jq_J l G M R Ex Y pc L (.long y :: .long x :: st) n ad mem cells slots :=
  fun p e s m args below meth c A hC hE H locs ls hl hP hD hS => lv_lor hC.1.1 hC.1.2.1 hd (k p e s m args below meth c A hC hE H locs ls hl hP hD hS)
theorem jq_lxor {x y : Int64} (hd : decode M.2.1 pc = .ok (.lxor, 1)) (k : jq_J l G M R Ex Y (pc + 1) L (.long (x ^^^ y) :: st) n ad mem cells slots) : jq_J l G M R Ex Y pc L (.long y :: .long x :: st) n ad mem cells slots :=
  fun p e s m args below meth c A hC hE H locs ls hl hP hD hS => lv_lxor hC.1.1 hC.1.2.1 hd (k p e s m args below meth c A hC hE H locs ls hl hP hD hS)
theorem jq_idiv {x y : Int32} (hd : decode M.2.1 pc = .ok (.idiv, 1)) (hz : ¬ y = 0) (k : jq_J l G M R Ex Y (pc + 1) L (.int (x / y) :: st) n ad mem cells slots) : jq_J l G M R Ex Y pc L (.int y :: .int x :: st) n ad mem cells slots :=
  fun p e s m args below meth c A hC hE H locs ls hl hP hD hS => lv_idiv hC.1.1 hC.1.2.1 hd hz (k p e s m args below meth c A hC hE H locs ls hl hP hD hS)
theorem jq_irem {x y : Int32} (hd : decode M.2.1 pc = .ok (.irem, 1)) (hz : ¬ y = 0) (k : jq_J l G M R Ex Y (pc + 1) L (.int (x - x / y * y) :: st) n ad mem cells slots) : jq_J l G M R Ex Y pc L (.int y :: .int x :: st) n ad mem cells slots :=
  fun p e s m args below meth c A hC hE H locs ls hl hP hD hS => lv_irem hC.1.1 hC.1.2.1 hd hz (k p e s m args below meth c A hC hE H locs ls hl hP hD hS)
theorem jq_lneg {x : Int64} (hd : decode M.2.1 pc = .ok (.lneg, 1)) (k : jq_J l G M R Ex Y (pc + 1) L (.long (-x) :: st) n ad mem cells slots) : jq_J l G M R Ex Y pc L (.long x :: st) n ad mem cells slots :=
  fun p e s m args below meth c A hC hE H locs ls hl hP hD hS => lv_lneg hC.1.1 hC.1.2.1 hd (k p e s m args below meth c A hC hE H locs ls hl hP hD hS)
theorem jq_lshl {x v : Int64} {y : Int32} (hd : decode M.2.1 pc = .ok (.lshl, 1)) (hv : x <<< (y.toInt64 &&& 63) = v) (k : jq_J l G M R Ex Y (pc + 1) L (.long v :: st) n ad mem cells slots) : jq_J l G M R Ex Y pc L (.int y :: .long x :: st) n ad mem cells slots :=
  fun p e s m args below meth c A hC hE H locs ls hl hP hD hS => lv_lshl hC.1.1 hC.1.2.1 hd hv (k p e s m args below meth c A hC hE H locs ls hl hP hD hS)
theorem jq_lshr {x v : Int64} {y : Int32} (hd : decode M.2.1 pc = .ok (.lshr, 1)) (hv : x >>> (y.toInt64 &&& 63) = v) (k : jq_J l G M R Ex Y (pc + 1) L (.long v :: st) n ad mem cells slots) : jq_J l G M R Ex Y pc L (.int y :: .long x :: st) n ad mem cells slots :=
  fun p e s m args below meth c A hC hE H locs ls hl hP hD hS => lv_lshr hC.1.1 hC.1.2.1 hd hv (k p e s m args below meth c A hC hE H locs ls hl hP hD hS)
theorem jq_lushr {x v : Int64} {y : Int32} (hd : decode M.2.1 pc = .ok (.lushr, 1)) (hv : (x.toUInt64 >>> (y.toInt64.toUInt64 &&& Int64.toUInt64 63)).toInt64 = v) (k : jq_J l G M R Ex Y (pc + 1) L (.long v :: st) n ad mem cells slots) : jq_J l G M R Ex Y pc L (.int y :: .long x :: st) n ad mem cells slots :=
  fun p e s m args below meth c A hC hE H locs ls hl hP hD hS => lv_lushr hC.1.1 hC.1.2.1 hd hv (k p e s m args below meth c A hC hE H locs ls hl hP hD hS)
theorem jq_i2l {x : Int32} {v : Int64} (hd : decode M.2.1 pc = .ok (.i2l, 1)) (hv : x.toInt64 = v) (k : jq_J l G M R Ex Y (pc + 1) L (.long v :: st) n ad mem cells slots) : jq_J l G M R Ex Y pc L (.int x :: st) n ad mem cells slots :=
  fun p e s m args below meth c A hC hE H locs ls hl hP hD hS => lv_i2l hC.1.1 hC.1.2.1 hd hv (k p e s m args below meth c A hC hE H locs ls hl hP hD hS)
theorem jq_l2i {x : Int64} {v : Int32} (hd : decode M.2.1 pc = .ok (.l2i, 1)) (hv : x.toInt32 = v) (k : jq_J l G M R Ex Y (pc + 1) L (.int v :: st) n ad mem cells slots) : jq_J l G M R Ex Y pc L (.long x :: st) n ad mem cells slots :=
  fun p e s m args below meth c A hC hE H locs ls hl hP hD hS => lv_l2i hC.1.1 hC.1.2.1 hd hv (k p e s m args below meth c A hC hE H locs ls hl hP hD hS)
theorem jq_lcmp {x y : Int64} (hd : decode M.2.1 pc = .ok (.lcmp, 1)) (k : jq_J l G M R Ex Y (pc + 1) L (.int (lg_cmp x y) :: st) n ad mem cells slots) : jq_J l G M R Ex Y pc L (.long y :: .long x :: st) n ad mem cells slots :=
  fun p e s m args below meth c A hC hE H locs ls hl hP hD hS => W.lcmp hC.1.1 hC.1.2.1 hd (k p e s m args below meth c A hC hE H locs ls hl hP hD hS)
theorem jq_dup {v : Value} (hd : decode M.2.1 pc = .ok (.dup, 1)) (hv : v.category = 1) (k : jq_J l G M R Ex Y (pc + 1) L (v :: v :: st) n ad mem cells slots) : jq_J l G M R Ex Y pc L (v :: st) n ad mem cells slots :=
  fun p e s m args below meth c A hC hE H locs ls hl hP hD hS => lv_dup hC.1.1 hC.1.2.1 hd hv (k p e s m args below meth c A hC hE H locs ls hl hP hD hS)
theorem jq_pop {v : Value} (hd : decode M.2.1 pc = .ok (.pop, 1)) (hv : v.category = 1) (k : jq_J l G M R Ex Y (pc + 1) L st n ad mem cells slots) : jq_J l G M R Ex Y pc L (v :: st) n ad mem cells slots :=
  fun p e s m args below meth c A hC hE H locs ls hl hP hD hS => lv_pop hC.1.1 hC.1.2.1 hd hv (k p e s m args below meth c A hC hE H locs ls hl hP hD hS)
theorem jq_dup2 {v w : Value} (hd : decode M.2.1 pc = .ok (.dup2, 1)) (hv : v.category = 1) (hw : w.category = 1) (k : jq_J l G M R Ex Y (pc + 1) L (v :: w :: v :: w :: st) n ad mem cells slots) : jq_J l G M R Ex Y pc L (v :: w :: st) n ad mem cells slots :=
  fun p e s m args below meth c A hC hE H locs ls hl hP hD hS => lv_dup2_11 hC.1.1 hC.1.2.1 hd hv hw (k p e s m args below meth c A hC hE H locs ls hl hP hD hS)
theorem jq_goto {off : Int} {tgt : Nat} (hd : decode M.2.1 pc = .ok (.goto off, 3)) (ht : (pc : Int) + off = (tgt : Int)) (k : jq_J l G M R Ex Y tgt L st n ad mem cells slots) : jq_J l G M R Ex Y pc L st n ad mem cells slots :=
  fun p e s m args below meth c A hC hE H locs ls hl hP hD hS => lv_goto hC.1.1 hC.1.2.1 hd ht (k p e s m args below meth c A hC hE H locs ls hl hP hD hS)
theorem jq_if_eq {x : Int32} {off : Int} {tgt : Nat} (hd : decode M.2.1 pc = .ok (.ifCond .eq off, 3)) (ht : (pc : Int) + off = (tgt : Int)) (kt : x = 0 → jq_J l G M R Ex Y tgt L st n ad mem cells slots) (kf : ¬ x = 0 → jq_J l G M R Ex Y (pc + 3) L st n ad mem cells slots) : jq_J l G M R Ex Y pc L (.int x :: st) n ad mem cells slots :=
  fun p e s m args below meth c A hC hE H locs ls hl hP hD hS => lv_if_eq hC.1.1 hC.1.2.1 hd ht (fun h => kt h p e s m args below meth c A hC hE H locs ls hl hP hD hS) (fun h => kf h p e s m args below meth c A hC hE H locs ls hl hP hD hS)
theorem jq_icmp_eq {x y : Int32} {off : Int} {tgt : Nat} (hd : decode M.2.1 pc = .ok (.if_icmp .eq off, 3)) (ht : (pc : Int) + off = (tgt : Int)) (kt : x = y → jq_J l G M R Ex Y tgt L st n ad mem cells slots) (kf : ¬ x = y → jq_J l G M R Ex Y (pc + 3) L st n ad mem cells slots) : jq_J l G M R Ex Y pc L (.int y :: .int x :: st) n ad mem cells slots :=
  fun p e s m args below meth c A hC hE H locs ls hl hP hD hS => lv_icmp_eq hC.1.1 hC.1.2.1 hd ht (fun h => kt h p e s m args below meth c A hC hE H locs ls hl hP hD hS) (fun h => kf h p e s m args below meth c A hC hE H locs ls hl hP hD hS)
theorem jq_if_ne {x : Int32} {off : Int} {tgt : Nat} (hd : decode M.2.1 pc = .ok (.ifCond .ne off, 3)) (ht : (pc : Int) + off = (tgt : Int)) (kt : ¬ x = 0 → jq_J l G M R Ex Y tgt L st n ad mem cells slots) (kf : x = 0 → jq_J l G M R Ex Y (pc + 3) L st n ad mem cells slots) : jq_J l G M R Ex Y pc L (.int x :: st) n ad mem cells slots :=
  fun p e s m args below meth c A hC hE H locs ls hl hP hD hS => lv_if_ne hC.1.1 hC.1.2.1 hd ht (fun h => kt h p e s m args below meth c A hC hE H locs ls hl hP hD hS) (fun h => kf h p e s m args below meth c A hC hE H locs ls hl hP hD hS)
theorem jq_icmp_ne {x y : Int32} {off : Int} {tgt : Nat} (hd : decode M.2.1 pc = .ok (.if_icmp .ne off, 3)) (ht : (pc : Int) + off = (tgt : Int)) (kt : ¬ x = y → jq_J l G M R Ex Y tgt L st n ad mem cells slots) (kf : x = y → jq_J l G M R Ex Y (pc + 3) L st n ad mem cells slots) : jq_J l G M R Ex Y pc L (.int y :: .int x :: st) n ad mem cells slots :=
  fun p e s m args below meth c A hC hE H locs ls hl hP hD hS => lv_icmp_ne hC.1.1 hC.1.2.1 hd ht (fun h => kt h p e s m args below meth c A hC hE H locs ls hl hP hD hS) (fun h => kf h p e s m args below meth c A hC hE H locs ls hl hP hD hS)
theorem jq_if_lt {x : Int32} {off : Int} {tgt : Nat} (hd : decode M.2.1 pc = .ok (.ifCond .lt off, 3)) (ht : (pc : Int) + off = (tgt : Int)) (kt : x < 0 → jq_J l G M R Ex Y tgt L st n ad mem cells slots) (kf : ¬ x < 0 → jq_J l G M R Ex Y (pc + 3) L st n ad mem cells slots) : jq_J l G M R Ex Y pc L (.int x :: st) n ad mem cells slots :=
  fun p e s m args below meth c A hC hE H locs ls hl hP hD hS => lv_if_lt hC.1.1 hC.1.2.1 hd ht (fun h => kt h p e s m args below meth c A hC hE H locs ls hl hP hD hS) (fun h => kf h p e s m args below meth c A hC hE H locs ls hl hP hD hS)
theorem jq_icmp_lt {x y : Int32} {off : Int} {tgt : Nat} (hd : decode M.2.1 pc = .ok (.if_icmp .lt off, 3)) (ht : (pc : Int) + off = (tgt : Int)) (kt : x < y → jq_J l G M R Ex Y tgt L st n ad mem cells slots) (kf : ¬ x < y → jq_J l G M R Ex Y (pc + 3) L st n ad mem cells slots) : jq_J l G M R Ex Y pc L (.int y :: .int x :: st) n ad mem cells slots :=
  fun p e s m args below meth c A hC hE H locs ls hl hP hD hS => lv_icmp_lt hC.1.1 hC.1.2.1 hd ht (fun h => kt h p e s m args below meth c A hC hE H locs ls hl hP hD hS) (fun h => kf h p e s m args below meth c A hC hE H locs ls hl hP hD hS)
theorem jq_if_ge {x : Int32} {off : Int} {tgt : Nat} (hd : decode M.2.1 pc = .ok (.ifCond .ge off, 3)) (ht : (pc : Int) + off = (tgt : Int)) (kt : 0 ≤ x → jq_J l G M R Ex Y tgt L st n ad mem cells slots) (kf : ¬ 0 ≤ x → jq_J l G M R Ex Y (pc + 3) L st n ad mem cells slots) : jq_J l G M R Ex Y pc L (.int x :: st) n ad mem cells slots :=
  fun p e s m args below meth c A hC hE H locs ls hl hP hD hS => lv_if_ge hC.1.1 hC.1.2.1 hd ht (fun h => kt h p e s m args below meth c A hC hE H locs ls hl hP hD hS) (fun h => kf h p e s m args below meth c A hC hE H locs ls hl hP hD hS)
theorem jq_icmp_ge {x y : Int32} {off : Int} {tgt : Nat} (hd : decode M.2.1 pc = .ok (.if_icmp .ge off, 3)) (ht : (pc : Int) + off = (tgt : Int)) (kt : y ≤ x → jq_J l G M R Ex Y tgt L st n ad mem cells slots) (kf : ¬ y ≤ x → jq_J l G M R Ex Y (pc + 3) L st n ad mem cells slots) : jq_J l G M R Ex Y pc L (.int y :: .int x :: st) n ad mem cells slots :=
  fun p e s m args below meth c A hC hE H locs ls hl hP hD hS => lv_icmp_ge hC.1.1 hC.1.2.1 hd ht (fun h => kt h p e s m args below meth c A hC hE H locs ls hl hP hD hS) (fun h => kf h p e s m args below meth c A hC hE H locs ls hl hP hD hS)
theorem jq_if_gt {x : Int32} {off : Int} {tgt : Nat} (hd : decode M.2.1 pc = .ok (.ifCond .gt off, 3)) (ht : (pc : Int) + off = (tgt : Int)) (kt : 0 < x → jq_J l G M R Ex Y tgt L st n ad mem cells slots) (kf : ¬ 0 < x → jq_J l G M R Ex Y (pc + 3) L st n ad mem cells slots) : jq_J l G M R Ex Y pc L (.int x :: st) n ad mem cells slots :=
  fun p e s m args below meth c A hC hE H locs ls hl hP hD hS => lv_if_gt hC.1.1 hC.1.2.1 hd ht (fun h => kt h p e s m args below meth c A hC hE H locs ls hl hP hD hS) (fun h => kf h p e s m args below meth c A hC hE H locs ls hl hP hD hS)
theorem jq_icmp_gt {x y : Int32} {off : Int} {tgt : Nat} (hd : decode M.2.1 pc = .ok (.if_icmp .gt off, 3)) (ht : (pc : Int) + off = (tgt : Int)) (kt : y < x → jq_J l G M R Ex Y tgt L st n ad mem cells slots) (kf : ¬ y < x → jq_J l G M R Ex Y (pc + 3) L st n ad mem cells slots) : jq_J l G M R Ex Y pc L (.int y :: .int x :: st) n ad mem cells slots :=
  fun p e s m args below meth c A hC hE H locs ls hl hP hD hS => lv_icmp_gt hC.1.1 hC.1.2.1 hd ht (fun h => kt h p e s m args below meth c A hC hE H locs ls hl hP hD hS) (fun h => kf h p e s m args below meth c A hC hE H locs ls hl hP hD hS)
theorem jq_if_le {x : Int32} {off : Int} {tgt : Nat} (hd : decode M.2.1 pc = .ok (.ifCond .le off, 3)) (ht : (pc : Int) + off = (tgt : Int)) (kt : x ≤ 0 → jq_J l G M R Ex Y tgt L st n ad mem cells slots) (kf : ¬ x ≤ 0 → jq_J l G M R Ex Y (pc + 3) L st n ad mem cells slots) : jq_J l G M R Ex Y pc L (.int x :: st) n ad mem cells slots :=
  fun p e s m args below meth c A hC hE H locs ls hl hP hD hS => lv_if_le hC.1.1 hC.1.2.1 hd ht (fun h => kt h p e s m args below meth c A hC hE H locs ls hl hP hD hS) (fun h => kf h p e s m args below meth c A hC hE H locs ls hl hP hD hS)
theorem jq_icmp_le {x y : Int32} {off : Int} {tgt : Nat} (hd : decode M.2.1 pc = .ok (.if_icmp .le off, 3)) (ht : (pc : Int) + off = (tgt : Int)) (kt : x ≤ y → jq_J l G M R Ex Y tgt L st n ad mem cells slots) (kf : ¬ x ≤ y → jq_J l G M R Ex Y (pc + 3) L st n ad mem cells slots) : jq_J l G M R Ex Y pc L (.int y :: .int x :: st) n ad mem cells slots :=
  fun p e s m args below meth c A hC hE H locs ls hl hP hD hS => lv_icmp_le hC.1.1 hC.1.2.1 hd ht (fun h => kt h p e s m args below meth c A hC hE H locs ls hl hP hD hS) (fun h => kf h p e s m args below meth c A hC hE H locs ls hl hP hD hS)
theorem jq_tableIn {dflt lo hi : Int} {offs : Array Int} {len : Nat} {x : Int32} {off : Int} {tgt : Nat} (hd : decode M.2.1 pc = .ok (.tableswitch dflt lo hi offs, len)) (h1 : ¬ x.toInt < lo) (h2 : ¬ hi < x.toInt) (ho : offs[(x.toInt - lo).toNat]? = some off) (ht : (pc : Int) + off = (tgt : Int)) (k : jq_J l G M R Ex Y tgt L st n ad mem cells slots) : jq_J l G M R Ex Y pc L (.int x :: st) n ad mem cells slots :=
  fun p e s m args below meth c A hC hE H locs ls hl hP hD hS => lv_tableIn hC.1.1 hC.1.2.1 hd h1 h2 ho ht (k p e s m args below meth c A hC hE H locs ls hl hP hD hS)
theorem jq_tableOut {dflt lo hi : Int} {offs : Array Int} {len : Nat} {x : Int32} {tgt : Nat} (hd : decode M.2.1 pc = .ok (.tableswitch dflt lo hi offs, len)) (h : x.toInt < lo ∨ hi < x.toInt) (ht : (pc : Int) + dflt = (tgt : Int)) (k : jq_J l G M R Ex Y tgt L st n ad mem cells slots) : jq_J l G M R Ex Y pc L (.int x :: st) n ad mem cells slots :=
  fun p e s m args below meth c A hC hE H locs ls hl hP hD hS => lv_tableOut hC.1.1 hC.1.2.1 hd h ht (k p e s m args below meth c A hC hE H locs ls hl hP hD hS)
end JQ
end
section
/-! THE LIGHT JUDGEMENT: cells, contracts, calls -/
/-- a field by its link: a method of the class own, its pool's entry idx: field k of the objects of kind ci -/
def jq_FL (own : String) (idx ci k : Nat) : Prop := ∃ (C : String) (T : u_T) (N : Nat), vwCl[ci]? = some (C, T, N) ∧ k < N ∧ (∀ w ∈ u_ws C T N, w ∈ jq_big) ∧
  (Cond.fieldLink own idx (T k).1 (T k).2.1 (T k).2.2.1 ∈ jq_big ∨ ∃ host, Cond.fieldLinkNest own idx (T k).1 (T k).2.1 (T k).2.2.1 host ∈ jq_nst)
def jq_FP (own : String) (idx ci k : Nat) (fin : Bool) (ty : FieldType) : Prop := ∃ (C : String) (T : u_T) (N : Nat) (ty0 : Nat → FieldType), vwCl[ci]? = some (C, T, N) ∧ k < N ∧ (∀ w ∈ u_ws C T N, w ∈ jq_big) ∧
  (∀ k, k < N → parseFieldDescriptor (T k).2.2.1 = some (ty0 k)) ∧ (∀ a, a < N → ∀ b, b < N → a ≠ b → (T a).2.1 ≠ (T b).2.1) ∧ ((T k).2.2.2 = fin ∧ parseFieldDescriptor (T k).2.2.1 = some ty ∧ ((T k).1 = own ∨ fin = false)) ∧
  ((Cond.fieldLink own idx (T k).1 (T k).2.1 (T k).2.2.1 ∈ jq_big) ∨ (fin = false ∧ ∃ host, Cond.fieldLinkNest own idx (T k).1 (T k).2.1 (T k).2.2.1 host ∈ jq_nst))
section JH
variable {l : Launch} {G : jq_G} {M : jq_M} {R : Room} {Ex : jq_E} {Y : jq_Y} {pc : Nat} {L : jq_L} {st : List Value} {n : Nat} {ad : Nat → Nat} {mem : Nat → va_E} {cells slots : Nat}
theorem jq_iaload {q z : Nat} {f : Nat → Int32} {i : Int32} (hd : decode M.2.1 pc = .ok (.iaload, 1)) (hq : q < n) (hm : mem q = .inl (G.2.1, z, .inl f)) (hin : vp_in i z) (k : jq_J l G M R Ex Y (pc + 1) L (.int (f i.toNatClampNeg) :: st) n ad mem cells slots) : jq_J l G M R Ex Y pc L (.int i :: .ref (ad q) :: st) n ad mem cells slots :=
  fun p e s m args below meth c A hC hE H locs ls hl hP hD hS => va_iald hC.1.1 hC.1.2.1 hC.2.2.1 hP q 0 (by rw [jq_wl_get hq, hm]) rfl hin hd (k p e s m args below meth c A hC hE H locs ls hl hP hD hS)
theorem jq_baload {q z : Nat} {f : Nat → Int32} {i : Int32} (hd : decode M.2.1 pc = .ok (.baload, 1)) (hq : q < n) (hm : mem q = .inl (G.2.2.2, z, .inl f)) (hin : vp_in i z) (k : jq_J l G M R Ex Y (pc + 1) L (.int (f i.toNatClampNeg) :: st) n ad mem cells slots) : jq_J l G M R Ex Y pc L (.int i :: .ref (ad q) :: st) n ad mem cells slots :=
  fun p e s m args below meth c A hC hE H locs ls hl hP hD hS => va_zald hC.1.1 hC.1.2.1 hC.2.2.1 hP q 2 (by rw [jq_wl_get hq, hm]) rfl hin hd (k p e s m args below meth c A hC hE H locs ls hl hP hD hS)
theorem jq_laload {q z : Nat} {f : Nat → Int64} {i : Int32} (hd : decode M.2.1 pc = .ok (.laload, 1)) (hq : q < n) (hm : mem q = .inl (G.2.2.1, z, .inr (.inl f))) (hin : vp_in i z) (k : jq_J l G M R Ex Y (pc + 1) L (.long (f i.toNatClampNeg) :: st) n ad mem cells slots) : jq_J l G M R Ex Y pc L (.int i :: .ref (ad q) :: st) n ad mem cells slots :=
  fun p e s m args below meth c A hC hE H locs ls hl hP hD hS => va_lald hC.1.1 hC.1.2.1 hC.2.2.1 hP q 1 (by rw [jq_wl_get hq, hm]) rfl hin hd (k p e s m args below meth c A hC hE H locs ls hl hP hD hS)
theorem jq_iastore {q z : Nat} {f : Nat → Int32} {i x : Int32} (hd : decode M.2.1 pc = .ok (.iastore, 1)) (hq : q < n) (hm : mem q = .inl (G.2.1, z, .inl f)) (hin : vp_in i z) (k : jq_J l G M R Ex Y (pc + 1) L st n ad (va_up mem q (.inl (G.2.1, z, .inl (upd f i.toNatClampNeg x)))) cells slots) : jq_J l G M R Ex Y pc L (.int x :: .int i :: .ref (ad q) :: st) n ad mem cells slots :=
  fun p e s m args below meth c A hC hE H locs ls hl hP hD hS => va_iast hC.1.1 hC.1.2.1 hC.2.2.1 hP hD hS q 0 (by rw [jq_wl_get hq, hm]) rfl hin hd (fun H1 locs1 hP1 hD1 hS1 => k p e s m args below meth c A hC hE H1 locs1 ls hl (by rw [jq_wl_set hq] at hP1; exact hP1) (by rw [jq_wl_set hq] at hD1; exact hD1) hS1)
theorem jq_bastore {q z : Nat} {f : Nat → Int32} {i x v : Int32} (hd : decode M.2.1 pc = .ok (.bastore, 1)) (hq : q < n) (hm : mem q = .inl (G.2.2.2, z, .inl f)) (hin : vp_in i z) (hv : vp_nar .boolean x = v) (k : jq_J l G M R Ex Y (pc + 1) L st n ad (va_up mem q (.inl (G.2.2.2, z, .inl (upd f i.toNatClampNeg v)))) cells slots) : jq_J l G M R Ex Y pc L (.int x :: .int i :: .ref (ad q) :: st) n ad mem cells slots := by
  subst hv
  exact fun p e s m args below meth c A hC hE H locs ls hl hP hD hS => va_zast hC.1.1 hC.1.2.1 hC.2.2.1 hP hD hS q 2 (by rw [jq_wl_get hq, hm]) rfl hin hd (fun H1 locs1 hP1 hD1 hS1 => k p e s m args below meth c A hC hE H1 locs1 ls hl (by rw [jq_wl_set hq] at hP1; exact hP1) (by rw [jq_wl_set hq] at hD1; exact hD1) hS1)
theorem jq_lastore {q z : Nat} {f : Nat → Int64} {i : Int32} {x : Int64} (hd : decode M.2.1 pc = .ok (.lastore, 1)) (hq : q < n) (hm : mem q = .inl (G.2.2.1, z, .inr (.inl f))) (hin : vp_in i z) (k : jq_J l G M R Ex Y (pc + 1) L st n ad (va_up mem q (.inl (G.2.2.1, z, .inr (.inl (vp_updL f i.toNatClampNeg x))))) cells slots) : jq_J l G M R Ex Y pc L (.long x :: .int i :: .ref (ad q) :: st) n ad mem cells slots :=
  fun p e s m args below meth c A hC hE H locs ls hl hP hD hS => va_last hC.1.1 hC.1.2.1 hC.2.2.1 hP hD hS q 1 (by rw [jq_wl_get hq, hm]) rfl hin hd (fun H1 locs1 hP1 hD1 hS1 => k p e s m args below meth c A hC hE H1 locs1 ls hl (by rw [jq_wl_set hq] at hP1; exact hP1) (by rw [jq_wl_set hq] at hD1; exact hD1) hS1)
theorem jq_alenI {q z : Nat} {f : Nat → Int32} (hd : decode M.2.1 pc = .ok (.arraylength, 1)) (hq : q < n) (hm : mem q = .inl (G.2.1, z, .inl f)) (k : jq_J l G M R Ex Y (pc + 1) L (.int (nI z) :: st) n ad mem cells slots) : jq_J l G M R Ex Y pc L (.ref (ad q) :: st) n ad mem cells slots :=
  fun p e s m args below meth c A hC hE H locs ls hl hP hD hS => va_alen hC.1.1 hC.1.2.1 hC.2.2.1 hP q 0 (x := (z, .inl f)) (by rw [jq_wl_get hq, hm]) (ty := .int) rfl rfl hd (k p e s m args below meth c A hC hE H locs ls hl hP hD hS)
theorem jq_alenL {q z : Nat} {f : Nat → Int64} (hd : decode M.2.1 pc = .ok (.arraylength, 1)) (hq : q < n) (hm : mem q = .inl (G.2.2.1, z, .inr (.inl f))) (k : jq_J l G M R Ex Y (pc + 1) L (.int (nI z) :: st) n ad mem cells slots) : jq_J l G M R Ex Y pc L (.ref (ad q) :: st) n ad mem cells slots :=
  fun p e s m args below meth c A hC hE H locs ls hl hP hD hS => va_alen hC.1.1 hC.1.2.1 hC.2.2.1 hP q 1 (x := (z, .inr (.inl f))) (by rw [jq_wl_get hq, hm]) (ty := .long) rfl rfl hd (k p e s m args below meth c A hC hE H locs ls hl hP hD hS)
theorem jq_getfield {idx ci k q : Nat} {fs : List Value} {v : Value} (F : jq_FL M.1.cls idx ci k) (hd : decode M.2.1 pc = .ok (.getfield idx, 3)) (hq : q < n) (hm : mem q = .inr (ci, fs)) (hv : fs[k]? = some v) (k : jq_J l G M R Ex Y (pc + 3) L (v :: st) n ad mem cells slots) : jq_J l G M R Ex Y pc L (.ref (ad q) :: st) n ad mem cells slots := by
  intro p e s m args below meth c A hC hE H locs ls hl hP hD hS
  obtain ⟨C, T, N, hc, hk, hw, h | ⟨host, h⟩⟩ := F
  · exact va_get hC.1.1 hC.1.2.1 (Ts := jq_big) hC.2.1 hw hC.1.2.2.2 hC.2.2.1 hP q (by rw [jq_wl_get hq, hm]) hc _ hk (hC.2.1 _ h) (fun x hx => hx) hv hd (k p e s m args below meth c A hC hE H locs ls hl hP hD hS)
  · exact va_getN hC.1.1 hC.1.2.1 (Ts := jq_big) hC.2.1 hw hC.1.2.2.2 hC.2.2.1 hP q (by rw [jq_wl_get hq, hm]) hc _ hk (va_Nw.use rfl (hC.2.2.2.1 _ h)) (fun x hx => hx) hv hd (k p e s m args below meth c A hC hE H locs ls hl hP hD hS)
theorem jq_putfield {idx ci k q : Nat} {fs : List Value} {v : Value} {ty : FieldType} (F : jq_FP M.1.cls idx ci k false ty) (hd : decode M.2.1 pc = .ok (.putfield idx, 3)) (hq : q < n) (hm : mem q = .inr (ci, fs)) (hn : narrow ty v = v) (hf : fits ty v = true) (hk0 : k < fs.length) (kk : jq_J l G M R Ex Y (pc + 3) L st n ad (va_up mem q (.inr (ci, fs.set k v))) cells slots) : jq_J l G M R Ex Y pc L (v :: .ref (ad q) :: st) n ad mem cells slots := by
  intro p e s m args below meth c A hC hE H locs ls hl hP hD hS
  obtain ⟨C, T, N, ty0, hc, hk, hw, h1, h2, ⟨h3, h4, -⟩, h | ⟨-, host, h⟩⟩ := F
  · exact va_put hC.1.1 hC.1.2.1 (Ts := jq_big) hC.2.1 hw ty0 h1 h2 hC.1.2.2.2 hC.2.2.1 hP hD hS q (by rw [jq_wl_get hq, hm]) hc _ hk (hC.2.1 _ h) (fun x hx => hx) h3 h4 hn hf hk0 hd (fun H1 locs1 hP1 hD1 hS1 => kk p e s m args below meth c A hC hE H1 locs1 ls hl (by rw [jq_wl_set hq] at hP1; exact hP1) (by rw [jq_wl_set hq] at hD1; exact hD1) hS1)
  · exact va_putN hC.1.1 hC.1.2.1 (Ts := jq_big) hC.2.1 hw ty0 h1 h2 hC.1.2.2.2 hC.2.2.1 hP hD hS q (by rw [jq_wl_get hq, hm]) hc _ hk (va_Nw.use rfl (hC.2.2.2.1 _ h)) (fun x hx => hx) h3 h4 hn hf hk0 hd (fun H1 locs1 hP1 hD1 hS1 => kk p e s m args below meth c A hC hE H1 locs1 ls hl (by rw [jq_wl_set hq] at hP1; exact hP1) (by rw [jq_wl_set hq] at hD1; exact hD1) hS1)
theorem jq_putfinal {idx ci k q : Nat} {fs : List Value} {v : Value} {ty : FieldType} (F : jq_FP M.1.cls idx ci k true ty) (hi : M.1.name = "<init>") (hd : decode M.2.1 pc = .ok (.putfield idx, 3)) (hq : q < n) (hm : mem q = .inr (ci, fs)) (hn : narrow ty v = v) (hf : fits ty v = true) (hk0 : k < fs.length) (kk : jq_J l G M R Ex Y (pc + 3) L st n ad (va_up mem q (.inr (ci, fs.set k v))) cells slots) : jq_J l G M R Ex Y pc L (v :: .ref (ad q) :: st) n ad mem cells slots := by
  intro p e s m args below meth c A hC hE H locs ls hl hP hD hS
  obtain ⟨C, T, N, ty0, hc, hk, hw, h1, h2, ⟨h3, h4, h5 | h5⟩, h | ⟨h6, -⟩⟩ := F
  · exact va_putF hC.1.1 hC.1.2.1 (Ts := jq_big) hC.2.1 hw ty0 h1 h2 hC.1.2.2.2 hC.2.2.1 hP hD hS q (by rw [jq_wl_get hq, hm]) hc _ hk (hC.2.1 _ h) (fun x hx => hx) h3 (hC.2.2.2.2.2.2.2.trans hi) h5 h4 hn hf hk0 hd (fun H1 locs1 hP1 hD1 hS1 => kk p e s m args below meth c A hC hE H1 locs1 ls hl (by rw [jq_wl_set hq] at hP1; exact hP1) (by rw [jq_wl_set hq] at hD1; exact hD1) hS1)
  · cases h6
  · cases h5
  · cases h5
end JH
/-! contracts -/
def jq_Q (G : jq_G) (P : Option Value → Nat → (Nat → Nat) → (Nat → va_E) → Prop) (A : Nat → Prop) : Array Value → State → Outcome → State → Prop := fun _ st o t =>
  (∃ (r : Option Value) (n' : Nat) (ad' : Nat → Nat) (mem' : Nat → va_E), o = .returned r ∧ P r n' ad' mem' ∧ va_P G.1 vwCl (jq_wl n' ad' mem') t.heap ∧ va_D A (jq_wl n' ad' mem')) ∧ va_F A st t
def jq_R (d mc ms : Nat) : Room := { frames := d, cells := mc, slots := ms, locals := 40 * d }
def jq_Pre (G : jq_G) (n : Nat) (ad : Nat → Nat) (mem : Nat → va_E) (sz : Nat) (U : State) : Prop := U.heap.size = sz ∧ va_P G.1 vwCl (jq_wl n ad mem) U.heap ∧ va_K G.1 vwCl (jq_tys G) U ∧ jq_N U ∧ va_D (fun _ => True) (jq_wl n ad mem)
def jq_Ct (l : Launch) (G : jq_G) (M : jq_M) (d mc ms : Nat) (av : List Value) (n : Nat) (ad : Nat → Nat) (mem : Nat → va_E) (P : Option Value → Nat → (Nat → Nat) → (Nat → va_E) → Prop) : Prop :=
  ∀ sz, Met l M.1 (jq_ws M) (jq_R d mc ms) (va_Pc av (jq_Pre G n ad mem sz)) (jq_Q G P (va_A (jq_wl n ad mem) sz)) mc ms (va_A (jq_wl n ad mem) sz)
def jq_Ye (G : jq_G) (P : Option Value → Nat → (Nat → Nat) → (Nat → va_E) → Prop) (mc ms : Nat) : jq_Y := fun below args s A => MQ below (jq_Q G P A) args s mc ms A
def jq_E0 : jq_E := fun _ _ _ => True
theorem jq_blind {G : jq_G} {av : List Value} {n : Nat} {ad : Nat → Nat} {mem : Nat → va_E} {sz : Nat} : FrameBlind (va_Pc av (jq_Pre G n ad mem sz)) := by
  intro a U g mk q
  obtain ⟨h0, h1, hP, hK, hN, hD⟩ := q
  exact ⟨h0, h1, hP, va_K.moved (u := U) (U := U.calling g mk a) (Vm.Alike.refl U.vm) hK, jq_N.same (u := U) (U := U.calling g mk a) rfl hN, hD⟩
theorem jq_Ct_of {l : Launch} {G : jq_G} {M : jq_M} {d mc ms : Nat} {av : List Value} {n : Nat} {ad : Nat → Nat} {mem : Nat → va_E} {P : Option Value → Nat → (Nat → Nat) → (Nat → va_E) → Prop} {L : jq_L}
    (hy : plainName M.1.cls = true) (hlen : (lg_sl av).length ≤ M.2.2.1) (hL : jq_ent av ++ List.replicate (M.2.2.1 - (jq_ent av).length) none = L)
    (k : jq_J l G M (jq_R d mc ms) jq_E0 (jq_Ye G P mc ms) 0 L [] n ad mem 0 0) : jq_Ct l G M d mc ms av n ad mem P := by
  intro sz
  refine Met.ofW (cc := M.2.1) (maxL := M.2.2.1) (ret := M.2.2.2) hy rfl ?_
  intro p e s m args below meth c s₁ B hml hv
  obtain ⟨rfl, hsz, hP, hK, hN, hD0⟩ := hv
  have hts := atoms_spec (ws := jq_ws M) B.pre
  subst hsz
  have hD := hD0.self (sz := s.heap.size)
  have hl := lv_entry av (n := M.2.2.1) hlen
  rw [lg_entry_eq]
  have hl2 : jq_lh ((lg_sl av ++ List.replicate (M.2.2.1 - (lg_sl av).length) Slot.unset).toArray) M.2.2.1 L := by
    refine jq_lh_mono (jq_lh_entry hl) (fun i v h => ?_)
    rw [← hL] at h
    rcases Nat.lt_or_ge i (jq_ent av).length with z | z
    · rw [List.getElem?_append_left z] at h; exact h
    · rw [List.getElem?_append_right z] at h
      have h3 := List.mem_of_getElem? h
      rw [List.mem_replicate] at h3
      exact absurd h3.2 (fun q => by cases q)
  exact k p e s m _ below meth c (va_A (jq_wl n ad mem) s.heap.size) ⟨⟨B.exec, B.bytes, hml, findClass_of_methodNamed B.named⟩, fun w hw => hts w (List.mem_cons_of_mem _ hw), hK, hN, fun q h => Or.inr h, B.returns, B.notSynchronized, (name_of_methodNamed B.named B.method).1⟩ trivial s.heap [] _ hl2 hP hD va_S.rf
section JR
variable {l : Launch} {G : jq_G} {M : jq_M} {R : Room} {Ex : jq_E} {P : Option Value → Nat → (Nat → Nat) → (Nat → va_E) → Prop} {mc ms pc : Nat} {L : jq_L} {n : Nat} {ad : Nat → Nat} {mem : Nat → va_E} {cells slots : Nat}
theorem jq_ireturn {v : Int32} {ty : FieldType} (hd : decode M.2.1 pc = .ok (.ireturn, 1)) (hr : M.2.2.2 = some ty) (hn : narrow ty (.int v) = .int v) (hc : cells ≤ mc) (hs : slots ≤ ms) (k : P (some (.int v)) n ad mem) : jq_J l G M R Ex (jq_Ye G P mc ms) pc L [.int v] n ad mem cells slots :=
  fun p e s m args below meth c A hC hE H locs ls hl hP hD hS => W.widen hc hs (W.zret hC.1.1 hC.1.2.1 (hC.2.2.2.2.2.1.trans hr) hn (fun t ht hW => ⟨⟨_, n, ad, mem, rfl, k, by rw [ht]; exact hP, hD⟩, hS.F ht⟩) hS.2.2 hd hC.2.2.2.2.2.2.1)
theorem jq_lreturn {v : Int64} (hd : decode M.2.1 pc = .ok (.lreturn, 1)) (hr : M.2.2.2 = some .long) (hc : cells ≤ mc) (hs : slots ≤ ms) (k : P (some (.long v)) n ad mem) : jq_J l G M R Ex (jq_Ye G P mc ms) pc L [.long v] n ad mem cells slots :=
  fun p e s m args below meth c A hC hE H locs ls hl hP hD hS => W.widen hc hs (W.lret hC.1.1 hC.1.2.1 (hC.2.2.2.2.2.1.trans hr) (fun t ht hW => ⟨⟨_, n, ad, mem, rfl, k, by rw [ht]; exact hP, hD⟩, hS.F ht⟩) hS.2.2 hd hC.2.2.2.2.2.2.1)
theorem jq_return {st : List Value} (hst : st = []) (hd : decode M.2.1 pc = .ok (.return_, 1)) (hr : M.2.2.2 = none) (hc : cells ≤ mc) (hs : slots ≤ ms) (k : P none n ad mem) : jq_J l G M R Ex (jq_Ye G P mc ms) pc L st n ad mem cells slots := by
  subst hst
  exact fun p e s m args below meth c A hC hE H locs ls hl hP hD hS => W.widen hc hs (W.vret hC.1.1 hC.1.2.1 (hC.2.2.2.2.2.1.trans hr) (fun t ht hW => ⟨⟨_, n, ad, mem, rfl, k, by rw [ht]; exact hP, hD⟩, hS.F ht⟩) hS.2.2 hd hC.2.2.2.2.2.2.1)
end JR
/-! calls -/
def jq_LM (own : String) (idx : Nat) (M' : jq_M) (na : Nat) : Prop := Cond.initialized M'.1.cls ∈ jq_big ∧ Cond.code M'.1 M'.2.1 M'.2.2.1 M'.2.2.2 ∈ jq_big ∧
  (M'.1.cls ≠ "java/lang/invoke/MethodHandle" ∧ M'.1.cls ≠ "java/lang/invoke/VarHandle" ∧ (parseMethodDescriptor M'.1.desc).map (fun d => d.parameters.length) = some na) ∧
  (Cond.methodLink own idx M'.1 ∈ jq_big ∨ ∃ host, Cond.methodLinkNest own idx M'.1 host ∈ jq_nst)
def jq_LV (own : String) (idx : Nat) (M' : jq_M) (na : Nat) : Prop := jq_LM own idx M' na ∧ Cond.instanceMethod M'.1 ∈ jq_big ∧ Cond.selects M'.1.cls M'.1 M'.1 ∈ jq_big
def jq_LS (own : String) (idx : Nat) (M' : jq_M) (na : Nat) : Prop := jq_LM own idx M' na ∧ Cond.static M'.1 ∈ jq_big
def jq_LI (own : String) (idx : Nat) (M' : jq_M) (na : Nat) : Prop := jq_LM own idx M' na ∧ Cond.instanceMethod M'.1 ∈ jq_big ∧ M'.1.name = "<init>" ∧ M'.2.2.2 = none
theorem jq_wsG {M' : jq_M} (h : Cond.code M'.1 M'.2.1 M'.2.2.1 M'.2.2.2 ∈ jq_big) : GoodIn jq_big (jq_ws M') := fun w hw => (List.mem_cons.mp hw).elim (fun e => by rw [e]; exact jq_good _ h) (fun h => jq_good w h)
def jq_fit (R : Room) (M' : jq_M) (d' mc' ms' cells slots : Nat) : Prop := (d' + 1 ≤ R.frames ∧ 8 + (M'.2.2.1 + 11) + 40 * d' ≤ R.locals) ∧ cells + mc' ≤ R.cells ∧ slots + ms' ≤ R.slots
theorem jq_back {p : Program} {l : Launch} {e : Env} {R : Room} {s : State} {m : MethodId} {args : Array Value} {below : List Frame} {meth : Method} {c : Code} {H : Heap} {locs : List Loc} {cells slots mc ms : Nat} {Q : State → Prop} {G : jq_G} {P : Option Value → Nat → (Nat → Nat) → (Nat → va_E) → Prop} {pc : Nat} {ls : Array Slot} {st0 rest : List Value} {a : Array Value} {A0 : Nat → Prop} {n : Nat} {ad : Nat → Nat} {mem : Nat → va_E}
    (hr : va_Run p l e R s m args below meth c H locs cells slots mc ms (F0 m pc ls st0) rest (jq_Q G P (va_A (jq_wl n ad mem) H.size) a) (va_A (jq_wl n ad mem) H.size)) (hD : va_D A0 (jq_wl n ad mem)) (hA : ∀ q, s.heap.size ≤ q → A0 q) (hS : va_S A0 s.heap H locs)
    (kk : ∀ (r : Option Value) (n' : Nat) (ad' : Nat → Nat) (mem' : Nat → va_E) (H1 : Heap) (locs1 : List Loc), P r n' ad' mem' → va_P G.1 vwCl (jq_wl n' ad' mem') H1 → va_D A0 (jq_wl n' ad' mem') → va_S A0 s.heap H1 locs1 → W p l e R s m args below meth c H1 locs1 (cells + mc) (slots + ms) Q (F0 m (pc + 3) ls (r.toList ++ rest))) : W p l e R s m args below meth c H locs cells slots Q (F0 m pc ls st0) := by
  have hF : ∀ q, va_A (jq_wl n ad mem) H.size q → A0 q := by
    intro q hq
    rcases hq with ⟨k, e, h⟩ | h
    · exact hD.2 k (q, e) h
    · exact hA q (Nat.le_trans hS.1 h)
  intro T hT X
  obtain ⟨v, st₀, t, T', L, h0, X', hL, e1, e2, ⟨⟨r, n', ad', mem', hv, hp, hP1, hD1⟩, hz, hk⟩, st⟩ := hr T hT X
  cases hv
  rw [h0] at hz hk
  obtain ⟨t2, a1, b1⟩ := kk v n' ad' mem' T'.heap (locs ++ L) hp (by rw [e1]; exact hP1) (hD1.weaken (fun _ q _ h => hF q.1 h))
    ⟨Nat.le_trans hS.1 (by rw [e1]; exact hz), fun q h1 h2 => by rw [e1, hk q (Nat.lt_of_lt_of_le h1 hS.1) (fun z => h2 (hF q z))]; exact hS.2.1 q h1 h2, fun q hq => by
      rcases List.mem_append.mp hq with h | h
      · exact hS.2.2 q h
      · exact hF _ (hL q h)⟩ T' rfl X'
  exact ⟨t2, st t2 a1, b1⟩
section JC
variable {l : Launch} {G : jq_G} {M M' : jq_M} {R : Room} {Ex : jq_E} {Y : jq_Y} {P' : Option Value → Nat → (Nat → Nat) → (Nat → va_E) → Prop} {pc idx na d' mc' ms' : Nat} {L : jq_L} {st As rest : List Value} {n : Nat} {ad : Nat → Nat} {mem : Nat → va_E} {cells slots : Nat}
theorem jq_pre {s : State} {H : Heap} {A : Nat → Prop} (hP : va_P G.1 vwCl (jq_wl n ad mem) H) (hK : va_K G.1 vwCl (jq_tys G) s) (hN : jq_N s) (hD : va_D A (jq_wl n ad mem)) (av : List Value) : ∀ U : State, U.heap = H → s.WarmedH U.vm → va_Pc av (jq_Pre G n ad mem H.size) av.toArray U :=
  fun U hU hW => ⟨rfl, by rw [hU], by rw [hU]; exact hP, va_K.moved hW.alike hK, hN.warm hW, hD.weaken (fun _ _ _ _ => trivial)⟩
theorem jq_invV {q ci : Nat} {fs : List Value} (hd : decode M.2.1 pc = .ok (.invokevirtual idx, 3)) (F : jq_LV M.1.cls idx M' na) (hCt : jq_Ct l G M' d' mc' ms' (.ref (ad q) :: As) n ad mem P') (hq : q < n) (hm : mem q = .inr (ci, fs)) (hci : (vwCl[ci]?).map (fun z => z.1) = some M'.1.cls) (hn : As.length = na) (hst : st = As.reverse ++ .ref (ad q) :: rest) (hw : (rest.map fun v => v.category).sum ≤ 8) (hf : jq_fit R M' d' mc' ms' cells slots)
    (k : ∀ r n' ad' mem', P' r n' ad' mem' → jq_J l G M R Ex Y (pc + 3) L (r.toList ++ rest) n' ad' mem' (cells + mc') (slots + ms')) : jq_J l G M R Ex Y pc L st n ad mem cells slots := by
  intro p e s m args below meth c A hC hE H locs ls hl hP hD hS
  obtain ⟨⟨f1, f2, f3, f4⟩, f5, f6⟩ := F
  obtain ⟨⟨r1, r2⟩, r3⟩ := hf
  have hcl : ∃ z : vw_C, vwCl[ci]? = some z ∧ z.1 = M'.1.cls := by
    cases hz : vwCl[ci]? with
    | none => rw [hz] at hci; cases hci
    | some z => rw [hz] at hci; exact ⟨z, rfl, Option.some.inj hci⟩
  obtain ⟨z, hz1, hz2⟩ := hcl
  have hrecv := va_recv hC.2.2.1 hP hz1 (show (jq_wl n ad mem)[q]? = some (ad q, .inr (ci, fs)) by rw [jq_wl_get hq, hm])
  rw [hz2] at hrecv
  have hpre : PreV s H M'.1.cls (ad q) (va_Pc (.ref (ad q) :: As) (jq_Pre G n ad mem H.size)) As := ⟨jq_blind, hrecv, jq_pre hP hC.2.2.1 hC.2.2.2.1 hD _⟩
  have hfin : va_Run p l e R s m args below meth c H locs cells slots mc' ms' (F0 m pc ls st) rest (jq_Q G P' (va_A (jq_wl n ad mem) H.size) (Value.ref (ad q) :: As).toArray) (va_A (jq_wl n ad mem) H.size) := by
    rcases f4 with f4 | ⟨host, f4⟩
    · exact va_runV (Ts := jq_big) (own := M.1.cls) ⟨hC.1.1, hC.1.2.1, hC.1.2.2.1, hC.1.2.2.2, hC.2.1⟩ (hCt H.size) ⟨callB_of na hC.2.1 (jq_wsG f2) rfl rfl rfl (hC.2.1 _ f1) (hC.2.1 _ f4) f3 ⟨r1, r2⟩, hC.2.1 _ f5, hC.2.1 _ f6⟩ hpre rfl hn hl.1 hst (lv_room hw) hd r3
    · exact va_runVN (Ts := jq_big) (own := M.1.cls) (host := host) ⟨hC.1.1, hC.1.2.1, hC.1.2.2.1, hC.1.2.2.2, hC.2.1⟩ (hCt H.size) ⟨va_cnB na hC.2.1 (jq_wsG f2) rfl rfl rfl (hC.2.2.2.1 _ f4) (hC.2.1 _ f1) f3 ⟨r1, r2⟩, hC.2.1 _ f5, hC.2.1 _ f6⟩ hpre rfl hn hl.1 hst (lv_room hw) hd r3
  exact jq_back hfin hD hC.2.2.2.2.1 hS (fun r n' ad' mem' H1 locs1 hp hP1 hD1 hS1 => k r n' ad' mem' hp p e s m args below meth c A hC hE H1 locs1 ls hl hP1 hD1 hS1)
theorem jq_invS (hd : decode M.2.1 pc = .ok (.invokestatic idx, 3)) (F : jq_LS M.1.cls idx M' na) (hCt : jq_Ct l G M' d' mc' ms' As n ad mem P') (hn : As.length = na) (hst : st = As.reverse ++ rest) (hw : (rest.map fun v => v.category).sum ≤ 8) (hf : jq_fit R M' d' mc' ms' cells slots)
    (k : ∀ r n' ad' mem', P' r n' ad' mem' → jq_J l G M R Ex Y (pc + 3) L (r.toList ++ rest) n' ad' mem' (cells + mc') (slots + ms')) : jq_J l G M R Ex Y pc L st n ad mem cells slots := by
  intro p e s m args below meth c A hC hE H locs ls hl hP hD hS
  obtain ⟨⟨f1, f2, f3, f4⟩, f5⟩ := F
  obtain ⟨⟨r1, r2⟩, r3⟩ := hf
  have hpre : PreS s H (va_Pc As (jq_Pre G n ad mem H.size)) As := ⟨jq_blind, jq_pre hP hC.2.2.1 hC.2.2.2.1 hD _⟩
  have hfin : va_Run p l e R s m args below meth c H locs cells slots mc' ms' (F0 m pc ls st) rest (jq_Q G P' (va_A (jq_wl n ad mem) H.size) As.toArray) (va_A (jq_wl n ad mem) H.size) := by
    rcases f4 with f4 | ⟨host, f4⟩
    · exact va_runS (Ts := jq_big) (own := M.1.cls) ⟨hC.1.1, hC.1.2.1, hC.1.2.2.1, hC.1.2.2.2, hC.2.1⟩ (hCt H.size) ⟨callB_of na hC.2.1 (jq_wsG f2) rfl rfl rfl (hC.2.1 _ f1) (hC.2.1 _ f4) f3 ⟨r1, r2⟩, hC.2.1 _ f5⟩ hpre rfl hn hl.1 hst (lv_room hw) hd r3
    · exact va_runSN (Ts := jq_big) (own := M.1.cls) (host := host) ⟨hC.1.1, hC.1.2.1, hC.1.2.2.1, hC.1.2.2.2, hC.2.1⟩ (hCt H.size) ⟨va_cnB na hC.2.1 (jq_wsG f2) rfl rfl rfl (hC.2.2.2.1 _ f4) (hC.2.1 _ f1) f3 ⟨r1, r2⟩, hC.2.1 _ f5, trivial⟩ hpre rfl hn hl.1 hst (lv_room hw) hd r3
  exact jq_back hfin hD hC.2.2.2.2.1 hS (fun r n' ad' mem' H1 locs1 hp hP1 hD1 hS1 => k r n' ad' mem' hp p e s m args below meth c A hC hE H1 locs1 ls hl hP1 hD1 hS1)
theorem jq_invI {q : Nat} {M' : MethodName × ByteArray × Nat × Option FieldType} (hd : decode M.2.1 pc = .ok (.invokespecial idx, 3)) (F : jq_LI M.1.cls idx M' na) (hCt : jq_Ct l G M' d' mc' ms' (.ref (ad q) :: As) n ad mem P') (hn : As.length = na) (hst : st = As.reverse ++ .ref (ad q) :: rest) (hw : (rest.map fun v => v.category).sum ≤ 8) (hf : jq_fit R M' d' mc' ms' cells slots)
    (k : ∀ r n' ad' mem', P' r n' ad' mem' → jq_J l G M R Ex Y (pc + 3) L (r.toList ++ rest) n' ad' mem' (cells + mc') (slots + ms')) : jq_J l G M R Ex Y pc L st n ad mem cells slots := by
  intro p e s m args below meth c A hC hE H locs ls hl hP hD hS
  obtain ⟨y', b', nL', ret'⟩ := M'
  obtain ⟨⟨f1, f2, f3, f4⟩, f5, f6, f7⟩ := F
  obtain ⟨⟨r1, r2⟩, r3⟩ := hf
  dsimp only at f7
  subst f7
  have hpre : PreS s H (va_Pc (.ref (ad q) :: As) (jq_Pre G n ad mem H.size)) (.ref (ad q) :: As) := ⟨jq_blind, jq_pre hP hC.2.2.1 hC.2.2.2.1 hD _⟩
  have hfin : va_Run p l e R s m args below meth c H locs cells slots mc' ms' (F0 m pc ls st) rest (jq_Q G P' (va_A (jq_wl n ad mem) H.size) (Value.ref (ad q) :: As).toArray) (va_A (jq_wl n ad mem) H.size) := by
    rcases f4 with f4 | ⟨host, f4⟩
    · exact va_runI (Ts := jq_big) (own := M.1.cls) ⟨hC.1.1, hC.1.2.1, hC.1.2.2.1, hC.1.2.2.2, hC.2.1⟩ (hCt H.size) ⟨callB_of na hC.2.1 (jq_wsG f2) rfl rfl rfl (hC.2.1 _ f1) (hC.2.1 _ f4) f3 ⟨r1, r2⟩, f6, hC.2.1 _ f5⟩ hpre rfl hn hl.1 hst (lv_room hw) hd r3
    · exact va_runIN (Ts := jq_big) (own := M.1.cls) (host := host) ⟨hC.1.1, hC.1.2.1, hC.1.2.2.1, hC.1.2.2.2, hC.2.1⟩ (hCt H.size) ⟨va_cnB na hC.2.1 (jq_wsG f2) rfl rfl rfl (hC.2.2.2.1 _ f4) (hC.2.1 _ f1) f3 ⟨r1, r2⟩, f6, hC.2.1 _ f5⟩ hpre rfl hn hl.1 hst (lv_room hw) hd r3
  exact jq_back hfin hD hC.2.2.2.2.1 hS (fun r n' ad' mem' H1 locs1 hp hP1 hD1 hS1 => k r n' ad' mem' hp p e s m args below meth c A hC hE H1 locs1 ls hl hP1 hD1 hS1)
end JC
end
section
/-! printed by program: the links of the class, of the reference and of the law, by the light judgement: mX6_at a method; fX6_12 a read, pX6_12 a write of a field by the pool entry 12 of the class X6; kX6_30 a call by the entry 30 -/
theorem jq_inbig {ws : List Cond} (ps : List Nat) (hp : ws = ps.filterMap (fun i => lw_tbl[i]?)) (h : ws.all goodWord = true) : ∀ w ∈ ws, w ∈ jq_big := by
  intro w hw
  refine jq_big_in ?_ (List.all_eq_true.mp h w hw)
  rw [hp] at hw
  obtain ⟨i, -, hi⟩ := List.mem_filterMap.mp hw
  exact List.mem_of_getElem? hi
theorem jq_in1 {w : Cond} (i : Nat) (h : lw_tbl[i]? = some w) (hg : goodWord w = true) : w ∈ jq_big := jq_big_in (List.mem_of_getElem? h) hg
theorem jq_inN {w : Cond} (i : Nat) (h : lw_tbl[i]? = some w) (hg : jq_isN w = true) : w ∈ jq_nst := jq_nst_in (List.mem_of_getElem? h) hg
theorem jw_X0 : ∀ w ∈ u_ws RX0 TX0 16, w ∈ jq_big := jq_inbig [118, 120, 122, 124, 126, 128, 130, 132, 134, 136, 138, 140, 142, 144, 146, 148] (by decide +kernel) (by decide +kernel)
theorem jw_X1 : ∀ w ∈ u_ws RX1 TX1 4, w ∈ jq_big := jq_inbig [170, 172, 174, 176] (by decide +kernel) (by decide +kernel)
theorem jw_X2 : ∀ w ∈ u_ws RX2 TX2 8, w ∈ jq_big := jq_inbig [225, 227, 229, 231, 233, 235, 237, 239] (by decide +kernel) (by decide +kernel)
theorem jw_X3 : ∀ w ∈ u_ws RX3 TX3 4, w ∈ jq_big := jq_inbig [252, 254, 256, 258] (by decide +kernel) (by decide +kernel)
theorem jw_X4 : ∀ w ∈ u_ws RX4 TX4 7, w ∈ jq_big := jq_inbig [190, 192, 194, 196, 198, 200, 202] (by decide +kernel) (by decide +kernel)
theorem jw_X5 : ∀ w ∈ u_ws RX5 TX5 6, w ∈ jq_big := jq_inbig [297, 299, 301, 303, 305, 307] (by decide +kernel) (by decide +kernel)
theorem jw_X6 : ∀ w ∈ u_ws RX6 TX6 27, w ∈ jq_big := jq_inbig [786, 788, 790, 792, 794, 796, 798, 800, 802, 804, 806, 808, 810, 812, 814, 816, 818, 820, 822, 824, 826, 828, 830, 832, 834, 836, 838] (by decide +kernel) (by decide +kernel)
theorem ji_X0 : Cond.initialized RX0 ∈ jq_big := jq_in1 55 (by decide +kernel) rfl
theorem ji_X1 : Cond.initialized RX1 ∈ jq_big := jq_in1 57 (by decide +kernel) rfl
theorem ji_X2 : Cond.initialized RX2 ∈ jq_big := jq_in1 58 (by decide +kernel) rfl
theorem ji_X3 : Cond.initialized RX3 ∈ jq_big := jq_in1 59 (by decide +kernel) rfl
theorem ji_X4 : Cond.initialized RX4 ∈ jq_big := jq_in1 56 (by decide +kernel) rfl
theorem ji_X5 : Cond.initialized RX5 ∈ jq_big := jq_in1 54 (by decide +kernel) rfl
theorem ji_X6 : Cond.initialized RX6 ∈ jq_big := jq_in1 61 (by decide +kernel) rfl
theorem ji_J13 : Cond.initialized RJ13 ∈ jq_big := jq_in1 67 (by decide +kernel) rfl
theorem ji_J7 : Cond.initialized RJ7 ∈ jq_big := jq_in1 60 (by decide +kernel) rfl
theorem ji_L : Cond.initialized RL ∈ jq_big := jq_in1 53 (by decide +kernel) rfl
abbrev mX0_init : jq_M := (yX0_init, cX0_init, 1, none)
theorem jc_X0_init : Cond.code yX0_init cX0_init 1 none ∈ jq_big := jq_in1 81 (by decide +kernel) rfl
theorem jn_X0_init : Cond.instanceMethod yX0_init ∈ jq_big := jq_in1 80 (by decide +kernel) rfl
abbrev mX0_build : jq_M := (yX0_build, cX0_build, 3, none)
theorem jc_X0_build : Cond.code yX0_build cX0_build 3 none ∈ jq_big := jq_in1 264 (by decide +kernel) rfl
theorem jn_X0_build : Cond.instanceMethod yX0_build ∈ jq_big := jq_in1 262 (by decide +kernel) rfl
theorem js_X0_build : Cond.selects RX0 yX0_build yX0_build ∈ jq_big := jq_in1 263 (by decide +kernel) rfl
abbrev mX0_tieEdges : jq_M := (yX0_tieEdges, cX0_tieEdges, 5, none)
theorem jc_X0_tieEdges : Cond.code yX0_tieEdges cX0_tieEdges 5 none ∈ jq_big := jq_in1 274 (by decide +kernel) rfl
theorem jn_X0_tieEdges : Cond.instanceMethod yX0_tieEdges ∈ jq_big := jq_in1 273 (by decide +kernel) rfl
theorem js_X0_tieEdges : Cond.selects RX0 yX0_tieEdges yX0_tieEdges ∈ jq_big := jq_in1 0 (by decide +kernel) rfl
abbrev mX0_tiePoints : jq_M := (yX0_tiePoints, cX0_tiePoints, 4, none)
theorem jc_X0_tiePoints : Cond.code yX0_tiePoints cX0_tiePoints 4 none ∈ jq_big := jq_in1 278 (by decide +kernel) rfl
theorem jn_X0_tiePoints : Cond.instanceMethod yX0_tiePoints ∈ jq_big := jq_in1 277 (by decide +kernel) rfl
theorem js_X0_tiePoints : Cond.selects RX0 yX0_tiePoints yX0_tiePoints ∈ jq_big := jq_in1 1 (by decide +kernel) rfl
abbrev mX0_tieAreas : jq_M := (yX0_tieAreas, cX0_tieAreas, 4, none)
theorem jc_X0_tieAreas : Cond.code yX0_tieAreas cX0_tieAreas 4 none ∈ jq_big := jq_in1 286 (by decide +kernel) rfl
theorem jn_X0_tieAreas : Cond.instanceMethod yX0_tieAreas ∈ jq_big := jq_in1 285 (by decide +kernel) rfl
theorem js_X0_tieAreas : Cond.selects RX0 yX0_tieAreas yX0_tieAreas ∈ jq_big := jq_in1 3 (by decide +kernel) rfl
abbrev mX0_areaAt : jq_M := (yX0_areaAt, cX0_areaAt, 4, (some .int))
theorem jc_X0_areaAt : Cond.code yX0_areaAt cX0_areaAt 4 (some .int) ∈ jq_big := jq_in1 282 (by decide +kernel) rfl
theorem jn_X0_areaAt : Cond.instanceMethod yX0_areaAt ∈ jq_big := jq_in1 281 (by decide +kernel) rfl
theorem js_X0_areaAt : Cond.selects RX0 yX0_areaAt yX0_areaAt ∈ jq_big := jq_in1 2 (by decide +kernel) rfl
abbrev mX0_placeCells : jq_M := (yX0_placeCells, cX0_placeCells, 4, none)
theorem jc_X0_placeCells : Cond.code yX0_placeCells cX0_placeCells 4 none ∈ jq_big := jq_in1 290 (by decide +kernel) rfl
theorem jn_X0_placeCells : Cond.instanceMethod yX0_placeCells ∈ jq_big := jq_in1 289 (by decide +kernel) rfl
theorem js_X0_placeCells : Cond.selects RX0 yX0_placeCells yX0_placeCells ∈ jq_big := jq_in1 4 (by decide +kernel) rfl
abbrev mX0_edgeAt : jq_M := (yX0_edgeAt, cX0_edgeAt, 3, (some .int))
theorem jc_X0_edgeAt : Cond.code yX0_edgeAt cX0_edgeAt 3 (some .int) ∈ jq_big := jq_in1 650 (by decide +kernel) rfl
theorem jn_X0_edgeAt : Cond.instanceMethod yX0_edgeAt ∈ jq_big := jq_in1 648 (by decide +kernel) rfl
theorem js_X0_edgeAt : Cond.selects RX0 yX0_edgeAt yX0_edgeAt ∈ jq_big := jq_in1 649 (by decide +kernel) rfl
abbrev mX0_touches : jq_M := (yX0_touches, cX0_touches, 4, (some .boolean))
theorem jc_X0_touches : Cond.code yX0_touches cX0_touches 4 (some .boolean) ∈ jq_big := jq_in1 388 (by decide +kernel) rfl
theorem jn_X0_touches : Cond.instanceMethod yX0_touches ∈ jq_big := jq_in1 386 (by decide +kernel) rfl
theorem js_X0_touches : Cond.selects RX0 yX0_touches yX0_touches ∈ jq_big := jq_in1 387 (by decide +kernel) rfl
abbrev mX0_hasFork : jq_M := (yX0_hasFork, cX0_hasFork, 4, (some .boolean))
theorem jc_X0_hasFork : Cond.code yX0_hasFork cX0_hasFork 4 (some .boolean) ∈ jq_big := jq_in1 506 (by decide +kernel) rfl
theorem jn_X0_hasFork : Cond.instanceMethod yX0_hasFork ∈ jq_big := jq_in1 504 (by decide +kernel) rfl
theorem js_X0_hasFork : Cond.selects RX0 yX0_hasFork yX0_hasFork ∈ jq_big := jq_in1 505 (by decide +kernel) rfl
abbrev mX0_joinsPointsOf : jq_M := (yX0_joinsPointsOf, cX0_joinsPointsOf, 4, (some .boolean))
theorem jc_X0_joinsPointsOf : Cond.code yX0_joinsPointsOf cX0_joinsPointsOf 4 (some .boolean) ∈ jq_big := jq_in1 431 (by decide +kernel) rfl
theorem jn_X0_joinsPointsOf : Cond.instanceMethod yX0_joinsPointsOf ∈ jq_big := jq_in1 429 (by decide +kernel) rfl
theorem js_X0_joinsPointsOf : Cond.selects RX0 yX0_joinsPointsOf yX0_joinsPointsOf ∈ jq_big := jq_in1 430 (by decide +kernel) rfl
abbrev mX0_firstWay : jq_M := (yX0_firstWay, cX0_firstWay, 9, (some .long))
theorem jc_X0_firstWay : Cond.code yX0_firstWay cX0_firstWay 9 (some .long) ∈ jq_big := jq_in1 396 (by decide +kernel) rfl
theorem jn_X0_firstWay : Cond.instanceMethod yX0_firstWay ∈ jq_big := jq_in1 394 (by decide +kernel) rfl
theorem js_X0_firstWay : Cond.selects RX0 yX0_firstWay yX0_firstWay ∈ jq_big := jq_in1 395 (by decide +kernel) rfl
abbrev mX0_isLoop : jq_M := (yX0_isLoop, cX0_isLoop, 5, (some .boolean))
theorem jc_X0_isLoop : Cond.code yX0_isLoop cX0_isLoop 5 (some .boolean) ∈ jq_big := jq_in1 400 (by decide +kernel) rfl
theorem jn_X0_isLoop : Cond.instanceMethod yX0_isLoop ∈ jq_big := jq_in1 398 (by decide +kernel) rfl
theorem js_X0_isLoop : Cond.selects RX0 yX0_isLoop yX0_isLoop ∈ jq_big := jq_in1 399 (by decide +kernel) rfl
abbrev mX0_numbersAreRight : jq_M := (yX0_numbersAreRight, cX0_numbersAreRight, 5, (some .boolean))
theorem jc_X0_numbersAreRight : Cond.code yX0_numbersAreRight cX0_numbersAreRight 5 (some .boolean) ∈ jq_big := jq_in1 406 (by decide +kernel) rfl
theorem jn_X0_numbersAreRight : Cond.instanceMethod yX0_numbersAreRight ∈ jq_big := jq_in1 404 (by decide +kernel) rfl
theorem js_X0_numbersAreRight : Cond.selects RX0 yX0_numbersAreRight yX0_numbersAreRight ∈ jq_big := jq_in1 405 (by decide +kernel) rfl
abbrev mX1_init : jq_M := (yX1_init, cX1_init, 1, none)
theorem jc_X1_init : Cond.code yX1_init cX1_init 1 none ∈ jq_big := jq_in1 163 (by decide +kernel) rfl
theorem jn_X1_init : Cond.instanceMethod yX1_init ∈ jq_big := jq_in1 162 (by decide +kernel) rfl
abbrev mX1_clear : jq_M := (yX1_clear, cX1_clear, 3, none)
theorem jc_X1_clear : Cond.code yX1_clear cX1_clear 3 none ∈ jq_big := jq_in1 353 (by decide +kernel) rfl
theorem jn_X1_clear : Cond.instanceMethod yX1_clear ∈ jq_big := jq_in1 351 (by decide +kernel) rfl
theorem js_X1_clear : Cond.selects RX1 yX1_clear yX1_clear ∈ jq_big := jq_in1 352 (by decide +kernel) rfl
abbrev mX1_areJoined : jq_M := (yX1_areJoined, cX1_areJoined, 3, (some .boolean))
theorem jc_X1_areJoined : Cond.code yX1_areJoined cX1_areJoined 3 (some .boolean) ∈ jq_big := jq_in1 362 (by decide +kernel) rfl
theorem jn_X1_areJoined : Cond.instanceMethod yX1_areJoined ∈ jq_big := jq_in1 360 (by decide +kernel) rfl
theorem js_X1_areJoined : Cond.selects RX1 yX1_areJoined yX1_areJoined ∈ jq_big := jq_in1 361 (by decide +kernel) rfl
abbrev mX1_differ : jq_M := (yX1_differ, cX1_differ, 3, (some .boolean))
theorem jc_X1_differ : Cond.code yX1_differ cX1_differ 3 (some .boolean) ∈ jq_big := jq_in1 366 (by decide +kernel) rfl
theorem jn_X1_differ : Cond.instanceMethod yX1_differ ∈ jq_big := jq_in1 364 (by decide +kernel) rfl
theorem js_X1_differ : Cond.selects RX1 yX1_differ yX1_differ ∈ jq_big := jq_in1 365 (by decide +kernel) rfl
abbrev mX1_join : jq_M := (yX1_join, cX1_join, 7, none)
theorem jc_X1_join : Cond.code yX1_join cX1_join 7 none ∈ jq_big := jq_in1 358 (by decide +kernel) rfl
theorem jn_X1_join : Cond.instanceMethod yX1_join ∈ jq_big := jq_in1 356 (by decide +kernel) rfl
theorem js_X1_join : Cond.selects RX1 yX1_join yX1_join ∈ jq_big := jq_in1 357 (by decide +kernel) rfl
abbrev mX2_init : jq_M := (yX2_init, cX2_init, 3, none)
theorem jc_X2_init : Cond.code yX2_init cX2_init 3 none ∈ jq_big := jq_in1 209 (by decide +kernel) rfl
theorem jn_X2_init : Cond.instanceMethod yX2_init ∈ jq_big := jq_in1 208 (by decide +kernel) rfl
abbrev mX2_run : jq_M := (yX2_run, cX2_run, 7, none)
theorem jc_X2_run : Cond.code yX2_run cX2_run 7 none ∈ jq_big := jq_in1 333 (by decide +kernel) rfl
theorem jn_X2_run : Cond.instanceMethod yX2_run ∈ jq_big := jq_in1 331 (by decide +kernel) rfl
theorem js_X2_run : Cond.selects RX2 yX2_run yX2_run ∈ jq_big := jq_in1 332 (by decide +kernel) rfl
abbrev mX2_begin : jq_M := (yX2_begin, cX2_begin, 6, none)
theorem jc_X2_begin : Cond.code yX2_begin cX2_begin 6 none ∈ jq_big := jq_in1 337 (by decide +kernel) rfl
theorem jn_X2_begin : Cond.instanceMethod yX2_begin ∈ jq_big := jq_in1 336 (by decide +kernel) rfl
theorem js_X2_begin : Cond.selects RX2 yX2_begin yX2_begin ∈ jq_big := jq_in1 6 (by decide +kernel) rfl
abbrev mX2_playRound : jq_M := (yX2_playRound, cX2_playRound, 1, (some .boolean))
theorem jc_X2_playRound : Cond.code yX2_playRound cX2_playRound 1 (some .boolean) ∈ jq_big := jq_in1 344 (by decide +kernel) rfl
theorem jn_X2_playRound : Cond.instanceMethod yX2_playRound ∈ jq_big := jq_in1 343 (by decide +kernel) rfl
theorem js_X2_playRound : Cond.selects RX2 yX2_playRound yX2_playRound ∈ jq_big := jq_in1 7 (by decide +kernel) rfl
abbrev mX2_decide : jq_M := (yX2_decide, cX2_decide, 2, none)
theorem jc_X2_decide : Cond.code yX2_decide cX2_decide 2 none ∈ jq_big := jq_in1 446 (by decide +kernel) rfl
theorem jn_X2_decide : Cond.instanceMethod yX2_decide ∈ jq_big := jq_in1 445 (by decide +kernel) rfl
theorem js_X2_decide : Cond.selects RX2 yX2_decide yX2_decide ∈ jq_big := jq_in1 16 (by decide +kernel) rfl
abbrev mX3_init : jq_M := (yX3_init, cX3_init, 2, none)
theorem jc_X3_init : Cond.code yX3_init cX3_init 2 none ∈ jq_big := jq_in1 246 (by decide +kernel) rfl
theorem jn_X3_init : Cond.instanceMethod yX3_init ∈ jq_big := jq_in1 245 (by decide +kernel) rfl
abbrev mX3_forget : jq_M := (yX3_forget, cX3_forget, 1, none)
theorem jc_X3_forget : Cond.code yX3_forget cX3_forget 1 none ∈ jq_big := jq_in1 593 (by decide +kernel) rfl
theorem jn_X3_forget : Cond.instanceMethod yX3_forget ∈ jq_big := jq_in1 591 (by decide +kernel) rfl
theorem js_X3_forget : Cond.selects RX3 yX3_forget yX3_forget ∈ jq_big := jq_in1 592 (by decide +kernel) rfl
abbrev mX3_find : jq_M := (yX3_find, cX3_find, 1, none)
theorem jc_X3_find : Cond.code yX3_find cX3_find 1 none ∈ jq_big := jq_in1 499 (by decide +kernel) rfl
theorem jn_X3_find : Cond.instanceMethod yX3_find ∈ jq_big := jq_in1 498 (by decide +kernel) rfl
theorem js_X3_find : Cond.selects RX3 yX3_find yX3_find ∈ jq_big := jq_in1 17 (by decide +kernel) rfl
abbrev mX3_grow : jq_M := (yX3_grow, cX3_grow, 8, none)
theorem jc_X3_grow : Cond.code yX3_grow cX3_grow 8 none ∈ jq_big := jq_in1 502 (by decide +kernel) rfl
theorem jt_X3_grow : Cond.static yX3_grow ∈ jq_big := jq_in1 501 (by decide +kernel) rfl
abbrev mX3_isAnswerFor : jq_M := (yX3_isAnswerFor, cX3_isAnswerFor, 8, (some .boolean))
theorem jc_X3_isAnswerFor : Cond.code yX3_isAnswerFor cX3_isAnswerFor 8 (some .boolean) ∈ jq_big := jq_in1 512 (by decide +kernel) rfl
theorem jn_X3_isAnswerFor : Cond.instanceMethod yX3_isAnswerFor ∈ jq_big := jq_in1 511 (by decide +kernel) rfl
theorem js_X3_isAnswerFor : Cond.selects RX3 yX3_isAnswerFor yX3_isAnswerFor ∈ jq_big := jq_in1 18 (by decide +kernel) rfl
abbrev mX3_countAnswers : jq_M := (yX3_countAnswers, cX3_countAnswers, 8, (some .int))
theorem jc_X3_countAnswers : Cond.code yX3_countAnswers cX3_countAnswers 8 (some .int) ∈ jq_big := jq_in1 495 (by decide +kernel) rfl
theorem jn_X3_countAnswers : Cond.instanceMethod yX3_countAnswers ∈ jq_big := jq_in1 493 (by decide +kernel) rfl
theorem js_X3_countAnswers : Cond.selects RX3 yX3_countAnswers yX3_countAnswers ∈ jq_big := jq_in1 494 (by decide +kernel) rfl
abbrev mX3_findAnswer : jq_M := (yX3_findAnswer, cX3_findAnswer, 8, (some .long))
theorem jc_X3_findAnswer : Cond.code yX3_findAnswer cX3_findAnswer 8 (some .long) ∈ jq_big := jq_in1 686 (by decide +kernel) rfl
theorem jn_X3_findAnswer : Cond.instanceMethod yX3_findAnswer ∈ jq_big := jq_in1 684 (by decide +kernel) rfl
theorem js_X3_findAnswer : Cond.selects RX3 yX3_findAnswer yX3_findAnswer ∈ jq_big := jq_in1 685 (by decide +kernel) rfl
abbrev mX3_linesOfAll : jq_M := (yX3_linesOfAll, cX3_linesOfAll, 8, (some .long))
theorem jc_X3_linesOfAll : Cond.code yX3_linesOfAll cX3_linesOfAll 8 (some .long) ∈ jq_big := jq_in1 726 (by decide +kernel) rfl
theorem jn_X3_linesOfAll : Cond.instanceMethod yX3_linesOfAll ∈ jq_big := jq_in1 724 (by decide +kernel) rfl
theorem js_X3_linesOfAll : Cond.selects RX3 yX3_linesOfAll yX3_linesOfAll ∈ jq_big := jq_in1 725 (by decide +kernel) rfl
abbrev mX3_linesOfSome : jq_M := (yX3_linesOfSome, cX3_linesOfSome, 8, (some .long))
theorem jc_X3_linesOfSome : Cond.code yX3_linesOfSome cX3_linesOfSome 8 (some .long) ∈ jq_big := jq_in1 730 (by decide +kernel) rfl
theorem jn_X3_linesOfSome : Cond.instanceMethod yX3_linesOfSome ∈ jq_big := jq_in1 728 (by decide +kernel) rfl
theorem js_X3_linesOfSome : Cond.selects RX3 yX3_linesOfSome yX3_linesOfSome ∈ jq_big := jq_in1 729 (by decide +kernel) rfl
abbrev mX4_init : jq_M := (yX4_init, cX4_init, 2, none)
theorem jc_X4_init : Cond.code yX4_init cX4_init 2 none ∈ jq_big := jq_in1 157 (by decide +kernel) rfl
theorem jn_X4_init : Cond.instanceMethod yX4_init ∈ jq_big := jq_in1 156 (by decide +kernel) rfl
abbrev mX4_look : jq_M := (yX4_look, cX4_look, 6, none)
theorem jc_X4_look : Cond.code yX4_look cX4_look 6 none ∈ jq_big := jq_in1 348 (by decide +kernel) rfl
theorem jn_X4_look : Cond.instanceMethod yX4_look ∈ jq_big := jq_in1 346 (by decide +kernel) rfl
theorem js_X4_look : Cond.selects RX4 yX4_look yX4_look ∈ jq_big := jq_in1 347 (by decide +kernel) rfl
abbrev mX4_reason : jq_M := (yX4_reason, cX4_reason, 1, (some .int))
theorem jc_X4_reason : Cond.code yX4_reason cX4_reason 1 (some .int) ∈ jq_big := jq_in1 370 (by decide +kernel) rfl
theorem jn_X4_reason : Cond.instanceMethod yX4_reason ∈ jq_big := jq_in1 368 (by decide +kernel) rfl
theorem js_X4_reason : Cond.selects RX4 yX4_reason yX4_reason ∈ jq_big := jq_in1 369 (by decide +kernel) rfl
abbrev mX4_hasBrokenCell : jq_M := (yX4_hasBrokenCell, cX4_hasBrokenCell, 5, (some .boolean))
theorem jc_X4_hasBrokenCell : Cond.code yX4_hasBrokenCell cX4_hasBrokenCell 5 (some .boolean) ∈ jq_big := jq_in1 374 (by decide +kernel) rfl
theorem jn_X4_hasBrokenCell : Cond.instanceMethod yX4_hasBrokenCell ∈ jq_big := jq_in1 373 (by decide +kernel) rfl
theorem js_X4_hasBrokenCell : Cond.selects RX4 yX4_hasBrokenCell yX4_hasBrokenCell ∈ jq_big := jq_in1 8 (by decide +kernel) rfl
abbrev mX4_hasBrokenPoint : jq_M := (yX4_hasBrokenPoint, cX4_hasBrokenPoint, 3, (some .boolean))
theorem jc_X4_hasBrokenPoint : Cond.code yX4_hasBrokenPoint cX4_hasBrokenPoint 3 (some .boolean) ∈ jq_big := jq_in1 384 (by decide +kernel) rfl
theorem jn_X4_hasBrokenPoint : Cond.instanceMethod yX4_hasBrokenPoint ∈ jq_big := jq_in1 383 (by decide +kernel) rfl
theorem js_X4_hasBrokenPoint : Cond.selects RX4 yX4_hasBrokenPoint yX4_hasBrokenPoint ∈ jq_big := jq_in1 9 (by decide +kernel) rfl
abbrev mX4_hasBrokenLoop : jq_M := (yX4_hasBrokenLoop, cX4_hasBrokenLoop, 6, (some .boolean))
theorem jc_X4_hasBrokenLoop : Cond.code yX4_hasBrokenLoop cX4_hasBrokenLoop 6 (some .boolean) ∈ jq_big := jq_in1 392 (by decide +kernel) rfl
theorem jn_X4_hasBrokenLoop : Cond.instanceMethod yX4_hasBrokenLoop ∈ jq_big := jq_in1 391 (by decide +kernel) rfl
theorem js_X4_hasBrokenLoop : Cond.selects RX4 yX4_hasBrokenLoop yX4_hasBrokenLoop ∈ jq_big := jq_in1 10 (by decide +kernel) rfl
abbrev mX4_askRules : jq_M := (yX4_askRules, cX4_askRules, 1, none)
theorem jc_X4_askRules : Cond.code yX4_askRules cX4_askRules 1 none ∈ jq_big := jq_in1 410 (by decide +kernel) rfl
theorem jn_X4_askRules : Cond.instanceMethod yX4_askRules ∈ jq_big := jq_in1 408 (by decide +kernel) rfl
theorem js_X4_askRules : Cond.selects RX4 yX4_askRules yX4_askRules ∈ jq_big := jq_in1 409 (by decide +kernel) rfl
abbrev mX4_want : jq_M := (yX4_want, cX4_want, 7, none)
theorem jc_X4_want : Cond.code yX4_want cX4_want 7 none ∈ jq_big := jq_in1 419 (by decide +kernel) rfl
theorem jn_X4_want : Cond.instanceMethod yX4_want ∈ jq_big := jq_in1 418 (by decide +kernel) rfl
theorem js_X4_want : Cond.selects RX4 yX4_want yX4_want ∈ jq_big := jq_in1 12 (by decide +kernel) rfl
abbrev mX4_askCells : jq_M := (yX4_askCells, cX4_askCells, 6, none)
theorem jc_X4_askCells : Cond.code yX4_askCells cX4_askCells 6 none ∈ jq_big := jq_in1 415 (by decide +kernel) rfl
theorem jn_X4_askCells : Cond.instanceMethod yX4_askCells ∈ jq_big := jq_in1 414 (by decide +kernel) rfl
theorem js_X4_askCells : Cond.selects RX4 yX4_askCells yX4_askCells ∈ jq_big := jq_in1 11 (by decide +kernel) rfl
abbrev mX4_askPoints : jq_M := (yX4_askPoints, cX4_askPoints, 6, none)
theorem jc_X4_askPoints : Cond.code yX4_askPoints cX4_askPoints 6 none ∈ jq_big := jq_in1 423 (by decide +kernel) rfl
theorem jn_X4_askPoints : Cond.instanceMethod yX4_askPoints ∈ jq_big := jq_in1 422 (by decide +kernel) rfl
theorem js_X4_askPoints : Cond.selects RX4 yX4_askPoints yX4_askPoints ∈ jq_big := jq_in1 13 (by decide +kernel) rfl
abbrev mX4_askWays : jq_M := (yX4_askWays, cX4_askWays, 9, none)
theorem jc_X4_askWays : Cond.code yX4_askWays cX4_askWays 9 none ∈ jq_big := jq_in1 427 (by decide +kernel) rfl
theorem jn_X4_askWays : Cond.instanceMethod yX4_askWays ∈ jq_big := jq_in1 426 (by decide +kernel) rfl
theorem js_X4_askWays : Cond.selects RX4 yX4_askWays yX4_askWays ∈ jq_big := jq_in1 14 (by decide +kernel) rfl
abbrev mX4_askColours : jq_M := (yX4_askColours, cX4_askColours, 4, none)
theorem jc_X4_askColours : Cond.code yX4_askColours cX4_askColours 4 none ∈ jq_big := jq_in1 436 (by decide +kernel) rfl
theorem jn_X4_askColours : Cond.instanceMethod yX4_askColours ∈ jq_big := jq_in1 435 (by decide +kernel) rfl
theorem js_X4_askColours : Cond.selects RX4 yX4_askColours yX4_askColours ∈ jq_big := jq_in1 15 (by decide +kernel) rfl
abbrev mX4_isTorn : jq_M := (yX4_isTorn, cX4_isTorn, 1, (some .boolean))
theorem jc_X4_isTorn : Cond.code yX4_isTorn cX4_isTorn 1 (some .boolean) ∈ jq_big := jq_in1 442 (by decide +kernel) rfl
theorem jn_X4_isTorn : Cond.instanceMethod yX4_isTorn ∈ jq_big := jq_in1 440 (by decide +kernel) rfl
theorem js_X4_isTorn : Cond.selects RX4 yX4_isTorn yX4_isTorn ∈ jq_big := jq_in1 441 (by decide +kernel) rfl
abbrev mX4_firstRuleFor : jq_M := (yX4_firstRuleFor, cX4_firstRuleFor, 3, (some .int))
theorem jc_X4_firstRuleFor : Cond.code yX4_firstRuleFor cX4_firstRuleFor 3 (some .int) ∈ jq_big := jq_in1 450 (by decide +kernel) rfl
theorem jn_X4_firstRuleFor : Cond.instanceMethod yX4_firstRuleFor ∈ jq_big := jq_in1 448 (by decide +kernel) rfl
theorem js_X4_firstRuleFor : Cond.selects RX4 yX4_firstRuleFor yX4_firstRuleFor ∈ jq_big := jq_in1 449 (by decide +kernel) rfl
abbrev mX5_init : jq_M := (yX5_init, cX5_init, 1, none)
theorem jc_X5_init : Cond.code yX5_init cX5_init 1 none ∈ jq_big := jq_in1 73 (by decide +kernel) rfl
theorem jn_X5_init : Cond.instanceMethod yX5_init ∈ jq_big := jq_in1 72 (by decide +kernel) rfl
abbrev mX5_lay : jq_M := (yX5_lay, cX5_lay, 3, none)
theorem jc_X5_lay : Cond.code yX5_lay cX5_lay 3 none ∈ jq_big := jq_in1 521 (by decide +kernel) rfl
theorem jn_X5_lay : Cond.instanceMethod yX5_lay ∈ jq_big := jq_in1 519 (by decide +kernel) rfl
theorem js_X5_lay : Cond.selects RX5 yX5_lay yX5_lay ∈ jq_big := jq_in1 520 (by decide +kernel) rfl
abbrev mX5_cells : jq_M := (yX5_cells, cX5_cells, 1, (some .int))
theorem jc_X5_cells : Cond.code yX5_cells cX5_cells 1 (some .int) ∈ jq_big := jq_in1 313 (by decide +kernel) rfl
theorem jn_X5_cells : Cond.instanceMethod yX5_cells ∈ jq_big := jq_in1 311 (by decide +kernel) rfl
theorem js_X5_cells : Cond.selects RX5 yX5_cells yX5_cells ∈ jq_big := jq_in1 312 (by decide +kernel) rfl
abbrev mX5_edges : jq_M := (yX5_edges, cX5_edges, 1, (some .int))
theorem jc_X5_edges : Cond.code yX5_edges cX5_edges 1 (some .int) ∈ jq_big := jq_in1 317 (by decide +kernel) rfl
theorem jn_X5_edges : Cond.instanceMethod yX5_edges ∈ jq_big := jq_in1 315 (by decide +kernel) rfl
theorem js_X5_edges : Cond.selects RX5 yX5_edges yX5_edges ∈ jq_big := jq_in1 316 (by decide +kernel) rfl
abbrev mX5_number : jq_M := (yX5_number, cX5_number, 4, (some .int))
theorem jc_X5_number : Cond.code yX5_number cX5_number 4 (some .int) ∈ jq_big := jq_in1 601 (by decide +kernel) rfl
theorem jn_X5_number : Cond.instanceMethod yX5_number ∈ jq_big := jq_in1 599 (by decide +kernel) rfl
theorem js_X5_number : Cond.selects RX5 yX5_number yX5_number ∈ jq_big := jq_in1 600 (by decide +kernel) rfl
abbrev mX5_mark : jq_M := (yX5_mark, cX5_mark, 6, (some .int))
theorem jc_X5_mark : Cond.code yX5_mark cX5_mark 6 (some .int) ∈ jq_big := jq_in1 629 (by decide +kernel) rfl
theorem jn_X5_mark : Cond.instanceMethod yX5_mark ∈ jq_big := jq_in1 627 (by decide +kernel) rfl
theorem js_X5_mark : Cond.selects RX5 yX5_mark yX5_mark ∈ jq_big := jq_in1 628 (by decide +kernel) rfl
abbrev mX5_wipe : jq_M := (yX5_wipe, cX5_wipe, 1, none)
theorem jc_X5_wipe : Cond.code yX5_wipe cX5_wipe 1 none ∈ jq_big := jq_in1 321 (by decide +kernel) rfl
theorem jn_X5_wipe : Cond.instanceMethod yX5_wipe ∈ jq_big := jq_in1 319 (by decide +kernel) rfl
theorem js_X5_wipe : Cond.selects RX5 yX5_wipe yX5_wipe ∈ jq_big := jq_in1 320 (by decide +kernel) rfl
abbrev mX5_markAll : jq_M := (yX5_markAll, cX5_markAll, 2, (some .int))
theorem jc_X5_markAll : Cond.code yX5_markAll cX5_markAll 2 (some .int) ∈ jq_big := jq_in1 329 (by decide +kernel) rfl
theorem jn_X5_markAll : Cond.instanceMethod yX5_markAll ∈ jq_big := jq_in1 327 (by decide +kernel) rfl
theorem js_X5_markAll : Cond.selects RX5 yX5_markAll yX5_markAll ∈ jq_big := jq_in1 328 (by decide +kernel) rfl
abbrev mX5_edgeOf : jq_M := (yX5_edgeOf, cX5_edgeOf, 3, (some .int))
theorem jc_X5_edgeOf : Cond.code yX5_edgeOf cX5_edgeOf 3 (some .int) ∈ jq_big := jq_in1 645 (by decide +kernel) rfl
theorem jn_X5_edgeOf : Cond.instanceMethod yX5_edgeOf ∈ jq_big := jq_in1 643 (by decide +kernel) rfl
theorem js_X5_edgeOf : Cond.selects RX5 yX5_edgeOf yX5_edgeOf ∈ jq_big := jq_in1 644 (by decide +kernel) rfl
abbrev mX5_lines : jq_M := (yX5_lines, cX5_lines, 1, (some .int))
theorem jc_X5_lines : Cond.code yX5_lines cX5_lines 1 (some .int) ∈ jq_big := jq_in1 455 (by decide +kernel) rfl
theorem jn_X5_lines : Cond.instanceMethod yX5_lines ∈ jq_big := jq_in1 453 (by decide +kernel) rfl
theorem js_X5_lines : Cond.selects RX5 yX5_lines yX5_lines ∈ jq_big := jq_in1 454 (by decide +kernel) rfl
abbrev mX5_ways : jq_M := (yX5_ways, cX5_ways, 5, (some .int))
theorem jc_X5_ways : Cond.code yX5_ways cX5_ways 5 (some .int) ∈ jq_big := jq_in1 459 (by decide +kernel) rfl
theorem jn_X5_ways : Cond.instanceMethod yX5_ways ∈ jq_big := jq_in1 457 (by decide +kernel) rfl
theorem js_X5_ways : Cond.selects RX5 yX5_ways yX5_ways ∈ jq_big := jq_in1 458 (by decide +kernel) rfl
abbrev mX5_broken : jq_M := (yX5_broken, cX5_broken, 1, (some .int))
theorem jc_X5_broken : Cond.code yX5_broken cX5_broken 1 (some .int) ∈ jq_big := jq_in1 465 (by decide +kernel) rfl
theorem jn_X5_broken : Cond.instanceMethod yX5_broken ∈ jq_big := jq_in1 463 (by decide +kernel) rfl
theorem js_X5_broken : Cond.selects RX5 yX5_broken yX5_broken ∈ jq_big := jq_in1 464 (by decide +kernel) rfl
abbrev mX5_isAnswer : jq_M := (yX5_isAnswer, cX5_isAnswer, 1, (some .boolean))
theorem jc_X5_isAnswer : Cond.code yX5_isAnswer cX5_isAnswer 1 (some .boolean) ∈ jq_big := jq_in1 471 (by decide +kernel) rfl
theorem jn_X5_isAnswer : Cond.instanceMethod yX5_isAnswer ∈ jq_big := jq_in1 469 (by decide +kernel) rfl
theorem js_X5_isAnswer : Cond.selects RX5 yX5_isAnswer yX5_isAnswer ∈ jq_big := jq_in1 470 (by decide +kernel) rfl
abbrev mX5_follows : jq_M := (yX5_follows, cX5_follows, 2, (some .int))
theorem jc_X5_follows : Cond.code yX5_follows cX5_follows 2 (some .int) ∈ jq_big := jq_in1 657 (by decide +kernel) rfl
theorem jn_X5_follows : Cond.instanceMethod yX5_follows ∈ jq_big := jq_in1 655 (by decide +kernel) rfl
theorem js_X5_follows : Cond.selects RX5 yX5_follows yX5_follows ∈ jq_big := jq_in1 656 (by decide +kernel) rfl
abbrev mX5_roundOf : jq_M := (yX5_roundOf, cX5_roundOf, 2, (some .int))
theorem jc_X5_roundOf : Cond.code yX5_roundOf cX5_roundOf 2 (some .int) ∈ jq_big := jq_in1 664 (by decide +kernel) rfl
theorem jn_X5_roundOf : Cond.instanceMethod yX5_roundOf ∈ jq_big := jq_in1 662 (by decide +kernel) rfl
theorem js_X5_roundOf : Cond.selects RX5 yX5_roundOf yX5_roundOf ∈ jq_big := jq_in1 663 (by decide +kernel) rfl
abbrev mX5_ruleOf : jq_M := (yX5_ruleOf, cX5_ruleOf, 2, (some .int))
theorem jc_X5_ruleOf : Cond.code yX5_ruleOf cX5_ruleOf 2 (some .int) ∈ jq_big := jq_in1 671 (by decide +kernel) rfl
theorem jn_X5_ruleOf : Cond.instanceMethod yX5_ruleOf ∈ jq_big := jq_in1 669 (by decide +kernel) rfl
theorem js_X5_ruleOf : Cond.selects RX5 yX5_ruleOf yX5_ruleOf ∈ jq_big := jq_in1 670 (by decide +kernel) rfl
abbrev mX5_rounds : jq_M := (yX5_rounds, cX5_rounds, 1, (some .int))
theorem jc_X5_rounds : Cond.code yX5_rounds cX5_rounds 1 (some .int) ∈ jq_big := jq_in1 477 (by decide +kernel) rfl
theorem jn_X5_rounds : Cond.instanceMethod yX5_rounds ∈ jq_big := jq_in1 475 (by decide +kernel) rfl
theorem js_X5_rounds : Cond.selects RX5 yX5_rounds yX5_rounds ∈ jq_big := jq_in1 476 (by decide +kernel) rfl
abbrev mX5_end : jq_M := (yX5_end, cX5_end, 1, (some .int))
theorem jc_X5_end : Cond.code yX5_end cX5_end 1 (some .int) ∈ jq_big := jq_in1 481 (by decide +kernel) rfl
theorem jn_X5_end : Cond.instanceMethod yX5_end ∈ jq_big := jq_in1 479 (by decide +kernel) rfl
theorem js_X5_end : Cond.selects RX5 yX5_end yX5_end ∈ jq_big := jq_in1 480 (by decide +kernel) rfl
abbrev mX5_hint : jq_M := (yX5_hint, cX5_hint, 4, (some .int))
theorem jc_X5_hint : Cond.code yX5_hint cX5_hint 4 (some .int) ∈ jq_big := jq_in1 485 (by decide +kernel) rfl
theorem jn_X5_hint : Cond.instanceMethod yX5_hint ∈ jq_big := jq_in1 483 (by decide +kernel) rfl
theorem js_X5_hint : Cond.selects RX5 yX5_hint yX5_hint ∈ jq_big := jq_in1 484 (by decide +kernel) rfl
abbrev mX5_answers : jq_M := (yX5_answers, cX5_answers, 1, (some .int))
theorem jc_X5_answers : Cond.code yX5_answers cX5_answers 1 (some .int) ∈ jq_big := jq_in1 491 (by decide +kernel) rfl
theorem jn_X5_answers : Cond.instanceMethod yX5_answers ∈ jq_big := jq_in1 489 (by decide +kernel) rfl
theorem js_X5_answers : Cond.selects RX5 yX5_answers yX5_answers ∈ jq_big := jq_in1 490 (by decide +kernel) rfl
abbrev mX5_answer : jq_M := (yX5_answer, cX5_answer, 2, (some .long))
theorem jc_X5_answer : Cond.code yX5_answer cX5_answer 2 (some .long) ∈ jq_big := jq_in1 678 (by decide +kernel) rfl
theorem jn_X5_answer : Cond.instanceMethod yX5_answer ∈ jq_big := jq_in1 676 (by decide +kernel) rfl
theorem js_X5_answer : Cond.selects RX5 yX5_answer yX5_answer ∈ jq_big := jq_in1 677 (by decide +kernel) rfl
abbrev mX5_isInside : jq_M := (yX5_isInside, cX5_isInside, 5, (some .boolean))
theorem jc_X5_isInside : Cond.code yX5_isInside cX5_isInside 5 (some .boolean) ∈ jq_big := jq_in1 694 (by decide +kernel) rfl
theorem jn_X5_isInside : Cond.instanceMethod yX5_isInside ∈ jq_big := jq_in1 692 (by decide +kernel) rfl
theorem js_X5_isInside : Cond.selects RX5 yX5_isInside yX5_isInside ∈ jq_big := jq_in1 693 (by decide +kernel) rfl
abbrev mX5_proved : jq_M := (yX5_proved, cX5_proved, 2, (some .int))
theorem jc_X5_proved : Cond.code yX5_proved cX5_proved 2 (some .int) ∈ jq_big := jq_in1 702 (by decide +kernel) rfl
theorem jn_X5_proved : Cond.instanceMethod yX5_proved ∈ jq_big := jq_in1 700 (by decide +kernel) rfl
theorem js_X5_proved : Cond.selects RX5 yX5_proved yX5_proved ∈ jq_big := jq_in1 701 (by decide +kernel) rfl
abbrev mX5_beyondRules : jq_M := (yX5_beyondRules, cX5_beyondRules, 3, (some .int))
theorem jc_X5_beyondRules : Cond.code yX5_beyondRules cX5_beyondRules 3 (some .int) ∈ jq_big := jq_in1 737 (by decide +kernel) rfl
theorem jn_X5_beyondRules : Cond.instanceMethod yX5_beyondRules ∈ jq_big := jq_in1 735 (by decide +kernel) rfl
theorem js_X5_beyondRules : Cond.selects RX5 yX5_beyondRules yX5_beyondRules ∈ jq_big := jq_in1 736 (by decide +kernel) rfl
abbrev mX5_isNeeded : jq_M := (yX5_isNeeded, cX5_isNeeded, 2, (some .boolean))
theorem jc_X5_isNeeded : Cond.code yX5_isNeeded cX5_isNeeded 2 (some .boolean) ∈ jq_big := jq_in1 744 (by decide +kernel) rfl
theorem jn_X5_isNeeded : Cond.instanceMethod yX5_isNeeded ∈ jq_big := jq_in1 742 (by decide +kernel) rfl
theorem js_X5_isNeeded : Cond.selects RX5 yX5_isNeeded yX5_isNeeded ∈ jq_big := jq_in1 743 (by decide +kernel) rfl
abbrev mX5_unmark : jq_M := (yX5_unmark, cX5_unmark, 1, none)
theorem jc_X5_unmark : Cond.code yX5_unmark cX5_unmark 1 none ∈ jq_big := jq_in1 325 (by decide +kernel) rfl
theorem jn_X5_unmark : Cond.instanceMethod yX5_unmark ∈ jq_big := jq_in1 324 (by decide +kernel) rfl
theorem js_X5_unmark : Cond.selects RX5 yX5_unmark yX5_unmark ∈ jq_big := jq_in1 5 (by decide +kernel) rfl
abbrev mX5_requireCell : jq_M := (yX5_requireCell, cX5_requireCell, 2, none)
theorem jc_X5_requireCell : Cond.code yX5_requireCell cX5_requireCell 2 none ∈ jq_big := jq_in1 605 (by decide +kernel) rfl
theorem jn_X5_requireCell : Cond.instanceMethod yX5_requireCell ∈ jq_big := jq_in1 604 (by decide +kernel) rfl
theorem js_X5_requireCell : Cond.selects RX5 yX5_requireCell yX5_requireCell ∈ jq_big := jq_in1 20 (by decide +kernel) rfl
abbrev mX5_requireEdge : jq_M := (yX5_requireEdge, cX5_requireEdge, 2, none)
theorem jc_X5_requireEdge : Cond.code yX5_requireEdge cX5_requireEdge 2 none ∈ jq_big := jq_in1 633 (by decide +kernel) rfl
theorem jn_X5_requireEdge : Cond.instanceMethod yX5_requireEdge ∈ jq_big := jq_in1 632 (by decide +kernel) rfl
theorem js_X5_requireEdge : Cond.selects RX5 yX5_requireEdge yX5_requireEdge ∈ jq_big := jq_in1 21 (by decide +kernel) rfl
abbrev mX5_requireAnswer : jq_M := (yX5_requireAnswer, cX5_requireAnswer, 4, (some .long))
theorem jc_X5_requireAnswer : Cond.code yX5_requireAnswer cX5_requireAnswer 4 (some .long) ∈ jq_big := jq_in1 682 (by decide +kernel) rfl
theorem jn_X5_requireAnswer : Cond.instanceMethod yX5_requireAnswer ∈ jq_big := jq_in1 681 (by decide +kernel) rfl
theorem js_X5_requireAnswer : Cond.selects RX5 yX5_requireAnswer yX5_requireAnswer ∈ jq_big := jq_in1 22 (by decide +kernel) rfl
abbrev mX5_requireSomeAnswer : jq_M := (yX5_requireSomeAnswer, cX5_requireSomeAnswer, 1, none)
theorem jc_X5_requireSomeAnswer : Cond.code yX5_requireSomeAnswer cX5_requireSomeAnswer 1 none ∈ jq_big := jq_in1 706 (by decide +kernel) rfl
theorem jn_X5_requireSomeAnswer : Cond.instanceMethod yX5_requireSomeAnswer ∈ jq_big := jq_in1 705 (by decide +kernel) rfl
theorem js_X5_requireSomeAnswer : Cond.selects RX5 yX5_requireSomeAnswer yX5_requireSomeAnswer ∈ jq_big := jq_in1 23 (by decide +kernel) rfl
abbrev mX5_has : jq_M := (yX5_has, cX5_has, 3, (some .boolean))
theorem jc_X5_has : Cond.code yX5_has cX5_has 3 (some .boolean) ∈ jq_big := jq_in1 340 (by decide +kernel) rfl
theorem jt_X5_has : Cond.static yX5_has ∈ jq_big := jq_in1 339 (by decide +kernel) rfl
abbrev mX5_stateIn : jq_M := (yX5_stateIn, cX5_stateIn, 5, (some .int))
theorem jc_X5_stateIn : Cond.code yX5_stateIn cX5_stateIn 5 (some .int) ∈ jq_big := jq_in1 638 (by decide +kernel) rfl
theorem jt_X5_stateIn : Cond.static yX5_stateIn ∈ jq_big := jq_in1 637 (by decide +kernel) rfl
abbrev mX6_init : jq_M := (yX6_init, cX6_init, 1, none)
theorem jc_X6_init : Cond.code yX6_init cX6_init 1 none ∈ jq_big := jq_in1 749 (by decide +kernel) rfl
theorem jn_X6_init : Cond.instanceMethod yX6_init ∈ jq_big := jq_in1 748 (by decide +kernel) rfl
abbrev mX6_thrown : jq_M := (yX6_thrown, cX6_thrown, 1, (some .int))
theorem jc_X6_thrown : Cond.code yX6_thrown cX6_thrown 1 (some .int) ∈ jq_big := jq_in1 845 (by decide +kernel) rfl
theorem jn_X6_thrown : Cond.instanceMethod yX6_thrown ∈ jq_big := jq_in1 843 (by decide +kernel) rfl
theorem js_X6_thrown : Cond.selects RX6 yX6_thrown yX6_thrown ∈ jq_big := jq_in1 844 (by decide +kernel) rfl
abbrev mX6_may : jq_M := (yX6_may, cX6_may, 2, (some .boolean))
theorem jc_X6_may : Cond.code yX6_may cX6_may 2 (some .boolean) ∈ jq_big := jq_in1 853 (by decide +kernel) rfl
theorem jn_X6_may : Cond.instanceMethod yX6_may ∈ jq_big := jq_in1 852 (by decide +kernel) rfl
theorem js_X6_may : Cond.selects RX6 yX6_may yX6_may ∈ jq_big := jq_in1 26 (by decide +kernel) rfl
abbrev mX6_mayBoth : jq_M := (yX6_mayBoth, cX6_mayBoth, 3, (some .boolean))
theorem jc_X6_mayBoth : Cond.code yX6_mayBoth cX6_mayBoth 3 (some .boolean) ∈ jq_big := jq_in1 873 (by decide +kernel) rfl
theorem jn_X6_mayBoth : Cond.instanceMethod yX6_mayBoth ∈ jq_big := jq_in1 872 (by decide +kernel) rfl
theorem js_X6_mayBoth : Cond.selects RX6 yX6_mayBoth yX6_mayBoth ∈ jq_big := jq_in1 28 (by decide +kernel) rfl
abbrev mX6_isCell : jq_M := (yX6_isCell, cX6_isCell, 2, (some .boolean))
theorem jc_X6_isCell : Cond.code yX6_isCell cX6_isCell 2 (some .boolean) ∈ jq_big := jq_in1 869 (by decide +kernel) rfl
theorem jn_X6_isCell : Cond.instanceMethod yX6_isCell ∈ jq_big := jq_in1 868 (by decide +kernel) rfl
theorem js_X6_isCell : Cond.selects RX6 yX6_isCell yX6_isCell ∈ jq_big := jq_in1 27 (by decide +kernel) rfl
abbrev mX6_isEdge : jq_M := (yX6_isEdge, cX6_isEdge, 2, (some .boolean))
theorem jc_X6_isEdge : Cond.code yX6_isEdge cX6_isEdge 2 (some .boolean) ∈ jq_big := jq_in1 881 (by decide +kernel) rfl
theorem jn_X6_isEdge : Cond.instanceMethod yX6_isEdge ∈ jq_big := jq_in1 880 (by decide +kernel) rfl
theorem js_X6_isEdge : Cond.selects RX6 yX6_isEdge yX6_isEdge ∈ jq_big := jq_in1 29 (by decide +kernel) rfl
abbrev mX6_cellAt : jq_M := (yX6_cellAt, cX6_cellAt, 3, (some .int))
theorem jc_X6_cellAt : Cond.code yX6_cellAt cX6_cellAt 3 (some .int) ∈ jq_big := jq_in1 758 (by decide +kernel) rfl
theorem jn_X6_cellAt : Cond.instanceMethod yX6_cellAt ∈ jq_big := jq_in1 757 (by decide +kernel) rfl
theorem js_X6_cellAt : Cond.selects RX6 yX6_cellAt yX6_cellAt ∈ jq_big := jq_in1 25 (by decide +kernel) rfl
abbrev mX6_lays : jq_M := (yX6_lays, cX6_lays, 8, none)
theorem jc_X6_lays : Cond.code yX6_lays cX6_lays 8 none ∈ jq_big := jq_in1 754 (by decide +kernel) rfl
theorem jn_X6_lays : Cond.instanceMethod yX6_lays ∈ jq_big := jq_in1 753 (by decide +kernel) rfl
theorem js_X6_lays : Cond.selects RX6 yX6_lays yX6_lays ∈ jq_big := jq_in1 24 (by decide +kernel) rfl
abbrev mX6_lay : jq_M := (yX6_lay, cX6_lay, 3, none)
theorem jc_X6_lay : Cond.code yX6_lay cX6_lay 3 none ∈ jq_big := jq_in1 849 (by decide +kernel) rfl
theorem jn_X6_lay : Cond.instanceMethod yX6_lay ∈ jq_big := jq_in1 847 (by decide +kernel) rfl
theorem js_X6_lay : Cond.selects RX6 yX6_lay yX6_lay ∈ jq_big := jq_in1 848 (by decide +kernel) rfl
abbrev mX6_cells : jq_M := (yX6_cells, cX6_cells, 1, (some .int))
theorem jc_X6_cells : Cond.code yX6_cells cX6_cells 1 (some .int) ∈ jq_big := jq_in1 857 (by decide +kernel) rfl
theorem jn_X6_cells : Cond.instanceMethod yX6_cells ∈ jq_big := jq_in1 855 (by decide +kernel) rfl
theorem js_X6_cells : Cond.selects RX6 yX6_cells yX6_cells ∈ jq_big := jq_in1 856 (by decide +kernel) rfl
abbrev mX6_edges : jq_M := (yX6_edges, cX6_edges, 1, (some .int))
theorem jc_X6_edges : Cond.code yX6_edges cX6_edges 1 (some .int) ∈ jq_big := jq_in1 861 (by decide +kernel) rfl
theorem jn_X6_edges : Cond.instanceMethod yX6_edges ∈ jq_big := jq_in1 859 (by decide +kernel) rfl
theorem js_X6_edges : Cond.selects RX6 yX6_edges yX6_edges ∈ jq_big := jq_in1 860 (by decide +kernel) rfl
abbrev mX6_number : jq_M := (yX6_number, cX6_number, 4, (some .int))
theorem jc_X6_number : Cond.code yX6_number cX6_number 4 (some .int) ∈ jq_big := jq_in1 865 (by decide +kernel) rfl
theorem jn_X6_number : Cond.instanceMethod yX6_number ∈ jq_big := jq_in1 863 (by decide +kernel) rfl
theorem js_X6_number : Cond.selects RX6 yX6_number yX6_number ∈ jq_big := jq_in1 864 (by decide +kernel) rfl
abbrev mX6_mark : jq_M := (yX6_mark, cX6_mark, 4, (some .int))
theorem jc_X6_mark : Cond.code yX6_mark cX6_mark 4 (some .int) ∈ jq_big := jq_in1 877 (by decide +kernel) rfl
theorem jn_X6_mark : Cond.instanceMethod yX6_mark ∈ jq_big := jq_in1 875 (by decide +kernel) rfl
theorem js_X6_mark : Cond.selects RX6 yX6_mark yX6_mark ∈ jq_big := jq_in1 876 (by decide +kernel) rfl
abbrev mX6_wipe : jq_M := (yX6_wipe, cX6_wipe, 2, none)
theorem jc_X6_wipe : Cond.code yX6_wipe cX6_wipe 2 none ∈ jq_big := jq_in1 885 (by decide +kernel) rfl
theorem jn_X6_wipe : Cond.instanceMethod yX6_wipe ∈ jq_big := jq_in1 883 (by decide +kernel) rfl
theorem js_X6_wipe : Cond.selects RX6 yX6_wipe yX6_wipe ∈ jq_big := jq_in1 884 (by decide +kernel) rfl
abbrev mX6_markAll : jq_M := (yX6_markAll, cX6_markAll, 3, (some .int))
theorem jc_X6_markAll : Cond.code yX6_markAll cX6_markAll 3 (some .int) ∈ jq_big := jq_in1 889 (by decide +kernel) rfl
theorem jn_X6_markAll : Cond.instanceMethod yX6_markAll ∈ jq_big := jq_in1 887 (by decide +kernel) rfl
theorem js_X6_markAll : Cond.selects RX6 yX6_markAll yX6_markAll ∈ jq_big := jq_in1 888 (by decide +kernel) rfl
abbrev mX6_edgeOf : jq_M := (yX6_edgeOf, cX6_edgeOf, 3, (some .int))
theorem jc_X6_edgeOf : Cond.code yX6_edgeOf cX6_edgeOf 3 (some .int) ∈ jq_big := jq_in1 957 (by decide +kernel) rfl
theorem jn_X6_edgeOf : Cond.instanceMethod yX6_edgeOf ∈ jq_big := jq_in1 955 (by decide +kernel) rfl
theorem js_X6_edgeOf : Cond.selects RX6 yX6_edgeOf yX6_edgeOf ∈ jq_big := jq_in1 956 (by decide +kernel) rfl
abbrev mX6_takeMarks : jq_M := (yX6_takeMarks, cX6_takeMarks, 2, none)
theorem jc_X6_takeMarks : Cond.code yX6_takeMarks cX6_takeMarks 2 none ∈ jq_big := jq_in1 897 (by decide +kernel) rfl
theorem jn_X6_takeMarks : Cond.instanceMethod yX6_takeMarks ∈ jq_big := jq_in1 896 (by decide +kernel) rfl
theorem js_X6_takeMarks : Cond.selects RX6 yX6_takeMarks yX6_takeMarks ∈ jq_big := jq_in1 31 (by decide +kernel) rfl
abbrev mX6_around : jq_M := (yX6_around, cX6_around, 5, (some .int))
theorem jc_X6_around : Cond.code yX6_around cX6_around 5 (some .int) ∈ jq_big := jq_in1 905 (by decide +kernel) rfl
theorem jn_X6_around : Cond.instanceMethod yX6_around ∈ jq_big := jq_in1 904 (by decide +kernel) rfl
theorem js_X6_around : Cond.selects RX6 yX6_around yX6_around ∈ jq_big := jq_in1 33 (by decide +kernel) rfl
abbrev mX6_at : jq_M := (yX6_at, cX6_at, 5, (some .int))
theorem jc_X6_at : Cond.code yX6_at cX6_at 5 (some .int) ∈ jq_big := jq_in1 909 (by decide +kernel) rfl
theorem jn_X6_at : Cond.instanceMethod yX6_at ∈ jq_big := jq_in1 908 (by decide +kernel) rfl
theorem js_X6_at : Cond.selects RX6 yX6_at yX6_at ∈ jq_big := jq_in1 34 (by decide +kernel) rfl
abbrev mX6_count : jq_M := (yX6_count, cX6_count, 4, (some .int))
theorem jc_X6_count : Cond.code yX6_count cX6_count 4 (some .int) ∈ jq_big := jq_in1 965 (by decide +kernel) rfl
theorem jn_X6_count : Cond.instanceMethod yX6_count ∈ jq_big := jq_in1 964 (by decide +kernel) rfl
theorem js_X6_count : Cond.selects RX6 yX6_count yX6_count ∈ jq_big := jq_in1 46 (by decide +kernel) rfl
abbrev mX6_areRight : jq_M := (yX6_areRight, cX6_areRight, 2, (some .boolean))
theorem jc_X6_areRight : Cond.code yX6_areRight cX6_areRight 2 (some .boolean) ∈ jq_big := jq_in1 925 (by decide +kernel) rfl
theorem jn_X6_areRight : Cond.instanceMethod yX6_areRight ∈ jq_big := jq_in1 924 (by decide +kernel) rfl
theorem js_X6_areRight : Cond.selects RX6 yX6_areRight yX6_areRight ∈ jq_big := jq_in1 38 (by decide +kernel) rfl
abbrev mX6_labels : jq_M := (yX6_labels, cX6_labels, 5, none)
theorem jc_X6_labels : Cond.code yX6_labels cX6_labels 5 none ∈ jq_big := jq_in1 913 (by decide +kernel) rfl
theorem jn_X6_labels : Cond.instanceMethod yX6_labels ∈ jq_big := jq_in1 912 (by decide +kernel) rfl
theorem js_X6_labels : Cond.selects RX6 yX6_labels yX6_labels ∈ jq_big := jq_in1 35 (by decide +kernel) rfl
abbrev mX6_waysOf : jq_M := (yX6_waysOf, cX6_waysOf, 3, (some .int))
theorem jc_X6_waysOf : Cond.code yX6_waysOf cX6_waysOf 3 (some .int) ∈ jq_big := jq_in1 921 (by decide +kernel) rfl
theorem jn_X6_waysOf : Cond.instanceMethod yX6_waysOf ∈ jq_big := jq_in1 920 (by decide +kernel) rfl
theorem js_X6_waysOf : Cond.selects RX6 yX6_waysOf yX6_waysOf ∈ jq_big := jq_in1 37 (by decide +kernel) rfl
abbrev mX6_isLoop : jq_M := (yX6_isLoop, cX6_isLoop, 3, (some .boolean))
theorem jc_X6_isLoop : Cond.code yX6_isLoop cX6_isLoop 3 (some .boolean) ∈ jq_big := jq_in1 953 (by decide +kernel) rfl
theorem jn_X6_isLoop : Cond.instanceMethod yX6_isLoop ∈ jq_big := jq_in1 952 (by decide +kernel) rfl
theorem js_X6_isLoop : Cond.selects RX6 yX6_isLoop yX6_isLoop ∈ jq_big := jq_in1 45 (by decide +kernel) rfl
abbrev mX6_hasLoop : jq_M := (yX6_hasLoop, cX6_hasLoop, 4, (some .boolean))
theorem jc_X6_hasLoop : Cond.code yX6_hasLoop cX6_hasLoop 4 (some .boolean) ∈ jq_big := jq_in1 917 (by decide +kernel) rfl
theorem jn_X6_hasLoop : Cond.instanceMethod yX6_hasLoop ∈ jq_big := jq_in1 916 (by decide +kernel) rfl
theorem js_X6_hasLoop : Cond.selects RX6 yX6_hasLoop yX6_hasLoop ∈ jq_big := jq_in1 36 (by decide +kernel) rfl
abbrev mX6_chains : jq_M := (yX6_chains, cX6_chains, 9, (some .boolean))
theorem jc_X6_chains : Cond.code yX6_chains cX6_chains 9 (some .boolean) ∈ jq_big := jq_in1 929 (by decide +kernel) rfl
theorem jn_X6_chains : Cond.instanceMethod yX6_chains ∈ jq_big := jq_in1 928 (by decide +kernel) rfl
theorem js_X6_chains : Cond.selects RX6 yX6_chains yX6_chains ∈ jq_big := jq_in1 39 (by decide +kernel) rfl
abbrev mX6_brokenBy : jq_M := (yX6_brokenBy, cX6_brokenBy, 3, (some .int))
theorem jc_X6_brokenBy : Cond.code yX6_brokenBy cX6_brokenBy 3 (some .int) ∈ jq_big := jq_in1 901 (by decide +kernel) rfl
theorem jn_X6_brokenBy : Cond.instanceMethod yX6_brokenBy ∈ jq_big := jq_in1 900 (by decide +kernel) rfl
theorem js_X6_brokenBy : Cond.selects RX6 yX6_brokenBy yX6_brokenBy ∈ jq_big := jq_in1 32 (by decide +kernel) rfl
abbrev mX6_want : jq_M := (yX6_want, cX6_want, 4, none)
theorem jc_X6_want : Cond.code yX6_want cX6_want 4 none ∈ jq_big := jq_in1 941 (by decide +kernel) rfl
theorem jn_X6_want : Cond.instanceMethod yX6_want ∈ jq_big := jq_in1 940 (by decide +kernel) rfl
theorem js_X6_want : Cond.selects RX6 yX6_want yX6_want ∈ jq_big := jq_in1 42 (by decide +kernel) rfl
abbrev mX6_wantAround : jq_M := (yX6_wantAround, cX6_wantAround, 5, none)
theorem jc_X6_wantAround : Cond.code yX6_wantAround cX6_wantAround 5 none ∈ jq_big := jq_in1 937 (by decide +kernel) rfl
theorem jn_X6_wantAround : Cond.instanceMethod yX6_wantAround ∈ jq_big := jq_in1 936 (by decide +kernel) rfl
theorem js_X6_wantAround : Cond.selects RX6 yX6_wantAround yX6_wantAround ∈ jq_big := jq_in1 41 (by decide +kernel) rfl
abbrev mX6_wantAt : jq_M := (yX6_wantAt, cX6_wantAt, 5, none)
theorem jc_X6_wantAt : Cond.code yX6_wantAt cX6_wantAt 5 none ∈ jq_big := jq_in1 945 (by decide +kernel) rfl
theorem jn_X6_wantAt : Cond.instanceMethod yX6_wantAt ∈ jq_big := jq_in1 944 (by decide +kernel) rfl
theorem js_X6_wantAt : Cond.selects RX6 yX6_wantAt yX6_wantAt ∈ jq_big := jq_in1 43 (by decide +kernel) rfl
abbrev mX6_closes : jq_M := (yX6_closes, cX6_closes, 3, (some .boolean))
theorem jc_X6_closes : Cond.code yX6_closes cX6_closes 3 (some .boolean) ∈ jq_big := jq_in1 949 (by decide +kernel) rfl
theorem jn_X6_closes : Cond.instanceMethod yX6_closes ∈ jq_big := jq_in1 948 (by decide +kernel) rfl
theorem js_X6_closes : Cond.selects RX6 yX6_closes yX6_closes ∈ jq_big := jq_in1 44 (by decide +kernel) rfl
abbrev mX6_asks : jq_M := (yX6_asks, cX6_asks, 4, none)
theorem jc_X6_asks : Cond.code yX6_asks cX6_asks 4 none ∈ jq_big := jq_in1 933 (by decide +kernel) rfl
theorem jn_X6_asks : Cond.instanceMethod yX6_asks ∈ jq_big := jq_in1 932 (by decide +kernel) rfl
theorem js_X6_asks : Cond.selects RX6 yX6_asks yX6_asks ∈ jq_big := jq_in1 40 (by decide +kernel) rfl
abbrev mX6_follow : jq_M := (yX6_follow, cX6_follow, 3, none)
theorem jc_X6_follow : Cond.code yX6_follow cX6_follow 3 none ∈ jq_big := jq_in1 893 (by decide +kernel) rfl
theorem jn_X6_follow : Cond.instanceMethod yX6_follow ∈ jq_big := jq_in1 892 (by decide +kernel) rfl
theorem js_X6_follow : Cond.selects RX6 yX6_follow yX6_follow ∈ jq_big := jq_in1 30 (by decide +kernel) rfl
abbrev mX6_lines : jq_M := (yX6_lines, cX6_lines, 1, (some .int))
theorem jc_X6_lines : Cond.code yX6_lines cX6_lines 1 (some .int) ∈ jq_big := jq_in1 961 (by decide +kernel) rfl
theorem jn_X6_lines : Cond.instanceMethod yX6_lines ∈ jq_big := jq_in1 959 (by decide +kernel) rfl
theorem js_X6_lines : Cond.selects RX6 yX6_lines yX6_lines ∈ jq_big := jq_in1 960 (by decide +kernel) rfl
abbrev mX6_ways : jq_M := (yX6_ways, cX6_ways, 1, (some .int))
theorem jc_X6_ways : Cond.code yX6_ways cX6_ways 1 (some .int) ∈ jq_big := jq_in1 969 (by decide +kernel) rfl
theorem jn_X6_ways : Cond.instanceMethod yX6_ways ∈ jq_big := jq_in1 967 (by decide +kernel) rfl
theorem js_X6_ways : Cond.selects RX6 yX6_ways yX6_ways ∈ jq_big := jq_in1 968 (by decide +kernel) rfl
abbrev mX6_broken : jq_M := (yX6_broken, cX6_broken, 1, (some .int))
theorem jc_X6_broken : Cond.code yX6_broken cX6_broken 1 (some .int) ∈ jq_big := jq_in1 973 (by decide +kernel) rfl
theorem jn_X6_broken : Cond.instanceMethod yX6_broken ∈ jq_big := jq_in1 971 (by decide +kernel) rfl
theorem js_X6_broken : Cond.selects RX6 yX6_broken yX6_broken ∈ jq_big := jq_in1 972 (by decide +kernel) rfl
abbrev mX6_isAnswer : jq_M := (yX6_isAnswer, cX6_isAnswer, 1, (some .boolean))
theorem jc_X6_isAnswer : Cond.code yX6_isAnswer cX6_isAnswer 1 (some .boolean) ∈ jq_big := jq_in1 977 (by decide +kernel) rfl
theorem jn_X6_isAnswer : Cond.instanceMethod yX6_isAnswer ∈ jq_big := jq_in1 975 (by decide +kernel) rfl
theorem js_X6_isAnswer : Cond.selects RX6 yX6_isAnswer yX6_isAnswer ∈ jq_big := jq_in1 976 (by decide +kernel) rfl
abbrev mX6_follows : jq_M := (yX6_follows, cX6_follows, 2, (some .int))
theorem jc_X6_follows : Cond.code yX6_follows cX6_follows 2 (some .int) ∈ jq_big := jq_in1 981 (by decide +kernel) rfl
theorem jn_X6_follows : Cond.instanceMethod yX6_follows ∈ jq_big := jq_in1 979 (by decide +kernel) rfl
theorem js_X6_follows : Cond.selects RX6 yX6_follows yX6_follows ∈ jq_big := jq_in1 980 (by decide +kernel) rfl
abbrev mX6_roundOf : jq_M := (yX6_roundOf, cX6_roundOf, 2, (some .int))
theorem jc_X6_roundOf : Cond.code yX6_roundOf cX6_roundOf 2 (some .int) ∈ jq_big := jq_in1 985 (by decide +kernel) rfl
theorem jn_X6_roundOf : Cond.instanceMethod yX6_roundOf ∈ jq_big := jq_in1 983 (by decide +kernel) rfl
theorem js_X6_roundOf : Cond.selects RX6 yX6_roundOf yX6_roundOf ∈ jq_big := jq_in1 984 (by decide +kernel) rfl
abbrev mX6_ruleOf : jq_M := (yX6_ruleOf, cX6_ruleOf, 2, (some .int))
theorem jc_X6_ruleOf : Cond.code yX6_ruleOf cX6_ruleOf 2 (some .int) ∈ jq_big := jq_in1 989 (by decide +kernel) rfl
theorem jn_X6_ruleOf : Cond.instanceMethod yX6_ruleOf ∈ jq_big := jq_in1 987 (by decide +kernel) rfl
theorem js_X6_ruleOf : Cond.selects RX6 yX6_ruleOf yX6_ruleOf ∈ jq_big := jq_in1 988 (by decide +kernel) rfl
abbrev mX6_rounds : jq_M := (yX6_rounds, cX6_rounds, 1, (some .int))
theorem jc_X6_rounds : Cond.code yX6_rounds cX6_rounds 1 (some .int) ∈ jq_big := jq_in1 993 (by decide +kernel) rfl
theorem jn_X6_rounds : Cond.instanceMethod yX6_rounds ∈ jq_big := jq_in1 991 (by decide +kernel) rfl
theorem js_X6_rounds : Cond.selects RX6 yX6_rounds yX6_rounds ∈ jq_big := jq_in1 992 (by decide +kernel) rfl
abbrev mX6_end : jq_M := (yX6_end, cX6_end, 1, (some .int))
theorem jc_X6_end : Cond.code yX6_end cX6_end 1 (some .int) ∈ jq_big := jq_in1 997 (by decide +kernel) rfl
theorem jn_X6_end : Cond.instanceMethod yX6_end ∈ jq_big := jq_in1 995 (by decide +kernel) rfl
theorem js_X6_end : Cond.selects RX6 yX6_end yX6_end ∈ jq_big := jq_in1 996 (by decide +kernel) rfl
abbrev mX6_hint : jq_M := (yX6_hint, cX6_hint, 2, (some .int))
theorem jc_X6_hint : Cond.code yX6_hint cX6_hint 2 (some .int) ∈ jq_big := jq_in1 1001 (by decide +kernel) rfl
theorem jn_X6_hint : Cond.instanceMethod yX6_hint ∈ jq_big := jq_in1 999 (by decide +kernel) rfl
theorem js_X6_hint : Cond.selects RX6 yX6_hint yX6_hint ∈ jq_big := jq_in1 1000 (by decide +kernel) rfl
abbrev mX6_has : jq_M := (yX6_has, cX6_has, 3, (some .boolean))
theorem jc_X6_has : Cond.code yX6_has cX6_has 3 (some .boolean) ∈ jq_big := jq_in1 1020 (by decide +kernel) rfl
theorem jt_X6_has : Cond.static yX6_has ∈ jq_big := jq_in1 1019 (by decide +kernel) rfl
abbrev mX6_border : jq_M := (yX6_border, cX6_border, 11, (some .long))
theorem jc_X6_border : Cond.code yX6_border cX6_border 11 (some .long) ∈ jq_big := jq_in1 1017 (by decide +kernel) rfl
theorem jn_X6_border : Cond.instanceMethod yX6_border ∈ jq_big := jq_in1 1016 (by decide +kernel) rfl
theorem js_X6_border : Cond.selects RX6 yX6_border yX6_border ∈ jq_big := jq_in1 49 (by decide +kernel) rfl
abbrev mX6_isAhead : jq_M := (yX6_isAhead, cX6_isAhead, 6, (some .boolean))
theorem jc_X6_isAhead : Cond.code yX6_isAhead cX6_isAhead 6 (some .boolean) ∈ jq_big := jq_in1 1023 (by decide +kernel) rfl
theorem jt_X6_isAhead : Cond.static yX6_isAhead ∈ jq_big := jq_in1 1022 (by decide +kernel) rfl
abbrev mX6_findLoops : jq_M := (yX6_findLoops, cX6_findLoops, 6, none)
theorem jc_X6_findLoops : Cond.code yX6_findLoops cX6_findLoops 6 none ∈ jq_big := jq_in1 1013 (by decide +kernel) rfl
theorem jn_X6_findLoops : Cond.instanceMethod yX6_findLoops ∈ jq_big := jq_in1 1012 (by decide +kernel) rfl
theorem js_X6_findLoops : Cond.selects RX6 yX6_findLoops yX6_findLoops ∈ jq_big := jq_in1 48 (by decide +kernel) rfl
abbrev mX6_fits : jq_M := (yX6_fits, cX6_fits, 7, (some .boolean))
theorem jc_X6_fits : Cond.code yX6_fits cX6_fits 7 (some .boolean) ∈ jq_big := jq_in1 1027 (by decide +kernel) rfl
theorem jn_X6_fits : Cond.instanceMethod yX6_fits ∈ jq_big := jq_in1 1026 (by decide +kernel) rfl
theorem js_X6_fits : Cond.selects RX6 yX6_fits yX6_fits ∈ jq_big := jq_in1 50 (by decide +kernel) rfl
abbrev mX6_answersWithout : jq_M := (yX6_answersWithout, cX6_answersWithout, 4, (some .int))
theorem jc_X6_answersWithout : Cond.code yX6_answersWithout cX6_answersWithout 4 (some .int) ∈ jq_big := jq_in1 1009 (by decide +kernel) rfl
theorem jn_X6_answersWithout : Cond.instanceMethod yX6_answersWithout ∈ jq_big := jq_in1 1008 (by decide +kernel) rfl
theorem js_X6_answersWithout : Cond.selects RX6 yX6_answersWithout yX6_answersWithout ∈ jq_big := jq_in1 47 (by decide +kernel) rfl
abbrev mX6_find : jq_M := (yX6_find, cX6_find, 4, (some .long))
theorem jc_X6_find : Cond.code yX6_find cX6_find 4 (some .long) ∈ jq_big := jq_in1 1035 (by decide +kernel) rfl
theorem jn_X6_find : Cond.instanceMethod yX6_find ∈ jq_big := jq_in1 1034 (by decide +kernel) rfl
theorem js_X6_find : Cond.selects RX6 yX6_find yX6_find ∈ jq_big := jq_in1 51 (by decide +kernel) rfl
abbrev mX6_answers : jq_M := (yX6_answers, cX6_answers, 1, (some .int))
theorem jc_X6_answers : Cond.code yX6_answers cX6_answers 1 (some .int) ∈ jq_big := jq_in1 1005 (by decide +kernel) rfl
theorem jn_X6_answers : Cond.instanceMethod yX6_answers ∈ jq_big := jq_in1 1003 (by decide +kernel) rfl
theorem js_X6_answers : Cond.selects RX6 yX6_answers yX6_answers ∈ jq_big := jq_in1 1004 (by decide +kernel) rfl
abbrev mX6_answer : jq_M := (yX6_answer, cX6_answer, 4, (some .long))
theorem jc_X6_answer : Cond.code yX6_answer cX6_answer 4 (some .long) ∈ jq_big := jq_in1 1031 (by decide +kernel) rfl
theorem jn_X6_answer : Cond.instanceMethod yX6_answer ∈ jq_big := jq_in1 1029 (by decide +kernel) rfl
theorem js_X6_answer : Cond.selects RX6 yX6_answer yX6_answer ∈ jq_big := jq_in1 1030 (by decide +kernel) rfl
abbrev mX6_isInside : jq_M := (yX6_isInside, cX6_isInside, 7, (some .boolean))
theorem jc_X6_isInside : Cond.code yX6_isInside cX6_isInside 7 (some .boolean) ∈ jq_big := jq_in1 1039 (by decide +kernel) rfl
theorem jn_X6_isInside : Cond.instanceMethod yX6_isInside ∈ jq_big := jq_in1 1037 (by decide +kernel) rfl
theorem js_X6_isInside : Cond.selects RX6 yX6_isInside yX6_isInside ∈ jq_big := jq_in1 1038 (by decide +kernel) rfl
abbrev mX6_having : jq_M := (yX6_having, cX6_having, 4, (some .int))
theorem jc_X6_having : Cond.code yX6_having cX6_having 4 (some .int) ∈ jq_big := jq_in1 1047 (by decide +kernel) rfl
theorem jn_X6_having : Cond.instanceMethod yX6_having ∈ jq_big := jq_in1 1046 (by decide +kernel) rfl
theorem js_X6_having : Cond.selects RX6 yX6_having yX6_having ∈ jq_big := jq_in1 52 (by decide +kernel) rfl
abbrev mX6_proved : jq_M := (yX6_proved, cX6_proved, 4, (some .int))
theorem jc_X6_proved : Cond.code yX6_proved cX6_proved 4 (some .int) ∈ jq_big := jq_in1 1043 (by decide +kernel) rfl
theorem jn_X6_proved : Cond.instanceMethod yX6_proved ∈ jq_big := jq_in1 1041 (by decide +kernel) rfl
theorem js_X6_proved : Cond.selects RX6 yX6_proved yX6_proved ∈ jq_big := jq_in1 1042 (by decide +kernel) rfl
abbrev mX6_beyondRules : jq_M := (yX6_beyondRules, cX6_beyondRules, 5, (some .int))
theorem jc_X6_beyondRules : Cond.code yX6_beyondRules cX6_beyondRules 5 (some .int) ∈ jq_big := jq_in1 1051 (by decide +kernel) rfl
theorem jn_X6_beyondRules : Cond.instanceMethod yX6_beyondRules ∈ jq_big := jq_in1 1049 (by decide +kernel) rfl
theorem js_X6_beyondRules : Cond.selects RX6 yX6_beyondRules yX6_beyondRules ∈ jq_big := jq_in1 1050 (by decide +kernel) rfl
abbrev mX6_isNeeded : jq_M := (yX6_isNeeded, cX6_isNeeded, 2, (some .boolean))
theorem jc_X6_isNeeded : Cond.code yX6_isNeeded cX6_isNeeded 2 (some .boolean) ∈ jq_big := jq_in1 1055 (by decide +kernel) rfl
theorem jn_X6_isNeeded : Cond.instanceMethod yX6_isNeeded ∈ jq_big := jq_in1 1053 (by decide +kernel) rfl
theorem js_X6_isNeeded : Cond.selects RX6 yX6_isNeeded yX6_isNeeded ∈ jq_big := jq_in1 1054 (by decide +kernel) rfl
abbrev mJ13_bitCount_95d88 : jq_M := (yJ13_bitCount_95d88, cJ13_bitCount_95d88, 2, (some .int))
theorem jc_J13_bitCount_95d88 : Cond.code yJ13_bitCount_95d88 cJ13_bitCount_95d88 2 (some .int) ∈ jq_big := jq_in1 377 (by decide +kernel) rfl
theorem jt_J13_bitCount_95d88 : Cond.static yJ13_bitCount_95d88 ∈ jq_big := jq_in1 376 (by decide +kernel) rfl
abbrev mJ7_fill_d0a16 : jq_M := (yJ7_fill_d0a16, cJ7_fill_d0a16, 5, none)
theorem jc_J7_fill_d0a16 : Cond.code yJ7_fill_d0a16 cJ7_fill_d0a16 5 none ∈ jq_big := jq_in1 270 (by decide +kernel) rfl
theorem jt_J7_fill_d0a16 : Cond.static yJ7_fill_d0a16 ∈ jq_big := jq_in1 269 (by decide +kernel) rfl
abbrev mJ7_fill_53178 : jq_M := (yJ7_fill_53178, cJ7_fill_53178, 4, none)
theorem jc_J7_fill_53178 : Cond.code yJ7_fill_53178 cJ7_fill_53178 4 none ∈ jq_big := jq_in1 267 (by decide +kernel) rfl
theorem jt_J7_fill_53178 : Cond.static yJ7_fill_53178 ∈ jq_big := jq_in1 266 (by decide +kernel) rfl
theorem kL_58 : jq_LI RL 58 mX5_init 0 := ⟨⟨ji_X5, jc_X5_init, by decide +kernel, Or.inl (jq_in1 71 (by decide +kernel) rfl)⟩, jn_X5_init, rfl, rfl⟩
theorem kX5_9 : jq_LI RX5 9 mX0_init 0 := ⟨⟨ji_X0, jc_X0_init, by decide +kernel, Or.inr ⟨"SlitherFence", jq_inN 79 (by decide +kernel) rfl⟩⟩, jn_X0_init, rfl, rfl⟩
theorem kX5_18 : jq_LI RX5 18 mX4_init 1 := ⟨⟨ji_X4, jc_X4_init, by decide +kernel, Or.inl (jq_in1 155 (by decide +kernel) rfl)⟩, jn_X4_init, rfl, rfl⟩
theorem kX4_11 : jq_LI RX4 11 mX1_init 0 := ⟨⟨ji_X1, jc_X1_init, by decide +kernel, Or.inr ⟨"SlitherFence", jq_inN 161 (by decide +kernel) rfl⟩⟩, jn_X1_init, rfl, rfl⟩
theorem kX5_27 : jq_LI RX5 27 mX2_init 2 := ⟨⟨ji_X2, jc_X2_init, by decide +kernel, Or.inl (jq_in1 207 (by decide +kernel) rfl)⟩, jn_X2_init, rfl, rfl⟩
theorem kX5_36 : jq_LI RX5 36 mX3_init 1 := ⟨⟨ji_X3, jc_X3_init, by decide +kernel, Or.inl (jq_in1 244 (by decide +kernel) rfl)⟩, jn_X3_init, rfl, rfl⟩
theorem kX5_41 : jq_LV RX5 41 mX0_build 2 := ⟨⟨ji_X0, jc_X0_build, by decide +kernel, Or.inl (jq_in1 261 (by decide +kernel) rfl)⟩, jn_X0_build, js_X0_build⟩
theorem kX0_63 : jq_LS RX0 63 mJ7_fill_53178 2 := ⟨⟨ji_J7, jc_J7_fill_53178, by decide +kernel, Or.inl (jq_in1 265 (by decide +kernel) rfl)⟩, jt_J7_fill_53178⟩
theorem kX0_69 : jq_LS RX0 69 mJ7_fill_d0a16 2 := ⟨⟨ji_J7, jc_J7_fill_d0a16, by decide +kernel, Or.inl (jq_in1 268 (by decide +kernel) rfl)⟩, jt_J7_fill_d0a16⟩
theorem kX0_72 : jq_LV RX0 72 mX0_tieEdges 0 := ⟨⟨ji_X0, jc_X0_tieEdges, by decide +kernel, Or.inl (jq_in1 271 (by decide +kernel) rfl)⟩, jn_X0_tieEdges, js_X0_tieEdges⟩
theorem kX0_78 : jq_LV RX0 78 mX0_tiePoints 3 := ⟨⟨ji_X0, jc_X0_tiePoints, by decide +kernel, Or.inl (jq_in1 275 (by decide +kernel) rfl)⟩, jn_X0_tiePoints, js_X0_tiePoints⟩
theorem kX0_82 : jq_LV RX0 82 mX0_areaAt 2 := ⟨⟨ji_X0, jc_X0_areaAt, by decide +kernel, Or.inl (jq_in1 279 (by decide +kernel) rfl)⟩, jn_X0_areaAt, js_X0_areaAt⟩
theorem kX0_86 : jq_LV RX0 86 mX0_tieAreas 3 := ⟨⟨ji_X0, jc_X0_tieAreas, by decide +kernel, Or.inl (jq_in1 283 (by decide +kernel) rfl)⟩, jn_X0_tieAreas, js_X0_tieAreas⟩
theorem kX0_75 : jq_LV RX0 75 mX0_placeCells 0 := ⟨⟨ji_X0, jc_X0_placeCells, by decide +kernel, Or.inl (jq_in1 287 (by decide +kernel) rfl)⟩, jn_X0_placeCells, js_X0_placeCells⟩
theorem kL_71 : jq_LV RL 71 mX5_cells 0 := ⟨⟨ji_X5, jc_X5_cells, by decide +kernel, Or.inl (jq_in1 310 (by decide +kernel) rfl)⟩, jn_X5_cells, js_X5_cells⟩
theorem kL_75 : jq_LV RL 75 mX5_edges 0 := ⟨⟨ji_X5, jc_X5_edges, by decide +kernel, Or.inl (jq_in1 314 (by decide +kernel) rfl)⟩, jn_X5_edges, js_X5_edges⟩
theorem kL_86 : jq_LV RL 86 mX5_wipe 0 := ⟨⟨ji_X5, jc_X5_wipe, by decide +kernel, Or.inl (jq_in1 318 (by decide +kernel) rfl)⟩, jn_X5_wipe, js_X5_wipe⟩
theorem kX5_55 : jq_LV RX5 55 mX5_unmark 0 := ⟨⟨ji_X5, jc_X5_unmark, by decide +kernel, Or.inl (jq_in1 322 (by decide +kernel) rfl)⟩, jn_X5_unmark, js_X5_unmark⟩
theorem kL_90 : jq_LV RL 90 mX5_markAll 0 := ⟨⟨ji_X5, jc_X5_markAll, by decide +kernel, Or.inl (jq_in1 326 (by decide +kernel) rfl)⟩, jn_X5_markAll, js_X5_markAll⟩
theorem kX5_93 : jq_LV RX5 93 mX2_run 2 := ⟨⟨ji_X2, jc_X2_run, by decide +kernel, Or.inl (jq_in1 330 (by decide +kernel) rfl)⟩, jn_X2_run, js_X2_run⟩
theorem kX2_26 : jq_LV RX2 26 mX2_begin 2 := ⟨⟨ji_X2, jc_X2_begin, by decide +kernel, Or.inl (jq_in1 334 (by decide +kernel) rfl)⟩, jn_X2_begin, js_X2_begin⟩
theorem kX2_53 : jq_LS RX2 53 mX5_has 2 := ⟨⟨ji_X5, jc_X5_has, by decide +kernel, Or.inr ⟨"SlitherFence", jq_inN 338 (by decide +kernel) rfl⟩⟩, jt_X5_has⟩
theorem kX2_30 : jq_LV RX2 30 mX2_playRound 0 := ⟨⟨ji_X2, jc_X2_playRound, by decide +kernel, Or.inl (jq_in1 341 (by decide +kernel) rfl)⟩, jn_X2_playRound, js_X2_playRound⟩
theorem kX2_57 : jq_LV RX2 57 mX4_look 2 := ⟨⟨ji_X4, jc_X4_look, by decide +kernel, Or.inl (jq_in1 345 (by decide +kernel) rfl)⟩, jn_X4_look, js_X4_look⟩
theorem kX4_44 : jq_LV RX4 44 mX1_clear 1 := ⟨⟨ji_X1, jc_X1_clear, by decide +kernel, Or.inl (jq_in1 350 (by decide +kernel) rfl)⟩, jn_X1_clear, js_X1_clear⟩
theorem kX4_51 : jq_LS RX4 51 mX5_has 2 := ⟨⟨ji_X5, jc_X5_has, by decide +kernel, Or.inr ⟨"SlitherFence", jq_inN 354 (by decide +kernel) rfl⟩⟩, jt_X5_has⟩
theorem kX4_62 : jq_LV RX4 62 mX1_join 3 := ⟨⟨ji_X1, jc_X1_join, by decide +kernel, Or.inl (jq_in1 355 (by decide +kernel) rfl)⟩, jn_X1_join, js_X1_join⟩
theorem kX1_26 : jq_LV RX1 26 mX1_areJoined 2 := ⟨⟨ji_X1, jc_X1_areJoined, by decide +kernel, Or.inl (jq_in1 359 (by decide +kernel) rfl)⟩, jn_X1_areJoined, js_X1_areJoined⟩
theorem kX1_30 : jq_LV RX1 30 mX1_differ 2 := ⟨⟨ji_X1, jc_X1_differ, by decide +kernel, Or.inl (jq_in1 363 (by decide +kernel) rfl)⟩, jn_X1_differ, js_X1_differ⟩
theorem kX2_62 : jq_LV RX2 62 mX4_reason 0 := ⟨⟨ji_X4, jc_X4_reason, by decide +kernel, Or.inl (jq_in1 367 (by decide +kernel) rfl)⟩, jn_X4_reason, js_X4_reason⟩
theorem kX4_66 : jq_LV RX4 66 mX4_hasBrokenCell 0 := ⟨⟨ji_X4, jc_X4_hasBrokenCell, by decide +kernel, Or.inl (jq_in1 371 (by decide +kernel) rfl)⟩, jn_X4_hasBrokenCell, js_X4_hasBrokenCell⟩
theorem kX4_86 : jq_LS RX4 86 mJ13_bitCount_95d88 1 := ⟨⟨ji_J13, jc_J13_bitCount_95d88, by decide +kernel, Or.inl (jq_in1 375 (by decide +kernel) rfl)⟩, jt_J13_bitCount_95d88⟩
theorem kX4_70 : jq_LV RX4 70 mX4_hasBrokenPoint 0 := ⟨⟨ji_X4, jc_X4_hasBrokenPoint, by decide +kernel, Or.inl (jq_in1 381 (by decide +kernel) rfl)⟩, jn_X4_hasBrokenPoint, js_X4_hasBrokenPoint⟩
theorem kX4_98 : jq_LV RX4 98 mX0_touches 2 := ⟨⟨ji_X0, jc_X0_touches, by decide +kernel, Or.inl (jq_in1 385 (by decide +kernel) rfl)⟩, jn_X0_touches, js_X0_touches⟩
theorem kX4_73 : jq_LV RX4 73 mX4_hasBrokenLoop 0 := ⟨⟨ji_X4, jc_X4_hasBrokenLoop, by decide +kernel, Or.inl (jq_in1 389 (by decide +kernel) rfl)⟩, jn_X4_hasBrokenLoop, js_X4_hasBrokenLoop⟩
theorem kX4_101 : jq_LV RX4 101 mX0_firstWay 1 := ⟨⟨ji_X0, jc_X0_firstWay, by decide +kernel, Or.inl (jq_in1 393 (by decide +kernel) rfl)⟩, jn_X0_firstWay, js_X0_firstWay⟩
theorem kX4_105 : jq_LV RX4 105 mX0_isLoop 1 := ⟨⟨ji_X0, jc_X0_isLoop, by decide +kernel, Or.inl (jq_in1 397 (by decide +kernel) rfl)⟩, jn_X0_isLoop, js_X0_isLoop⟩
theorem kX0_89 : jq_LS RX0 89 mJ13_bitCount_95d88 1 := ⟨⟨ji_J13, jc_J13_bitCount_95d88, by decide +kernel, Or.inl (jq_in1 401 (by decide +kernel) rfl)⟩, jt_J13_bitCount_95d88⟩
theorem kX0_99 : jq_LV RX0 99 mX0_firstWay 1 := ⟨⟨ji_X0, jc_X0_firstWay, by decide +kernel, Or.inl (jq_in1 402 (by decide +kernel) rfl)⟩, jn_X0_firstWay, js_X0_firstWay⟩
theorem kX4_109 : jq_LV RX4 109 mX0_numbersAreRight 2 := ⟨⟨ji_X0, jc_X0_numbersAreRight, by decide +kernel, Or.inl (jq_in1 403 (by decide +kernel) rfl)⟩, jn_X0_numbersAreRight, js_X0_numbersAreRight⟩
theorem kX2_66 : jq_LV RX2 66 mX4_askRules 0 := ⟨⟨ji_X4, jc_X4_askRules, by decide +kernel, Or.inl (jq_in1 407 (by decide +kernel) rfl)⟩, jn_X4_askRules, js_X4_askRules⟩
theorem kX4_112 : jq_LS RX4 112 mJ7_fill_d0a16 2 := ⟨⟨ji_J7, jc_J7_fill_d0a16, by decide +kernel, Or.inl (jq_in1 411 (by decide +kernel) rfl)⟩, jt_J7_fill_d0a16⟩
theorem kX4_124 : jq_LV RX4 124 mX4_askCells 0 := ⟨⟨ji_X4, jc_X4_askCells, by decide +kernel, Or.inl (jq_in1 412 (by decide +kernel) rfl)⟩, jn_X4_askCells, js_X4_askCells⟩
theorem kX4_136 : jq_LV RX4 136 mX4_want 3 := ⟨⟨ji_X4, jc_X4_want, by decide +kernel, Or.inl (jq_in1 416 (by decide +kernel) rfl)⟩, jn_X4_want, js_X4_want⟩
theorem kX4_127 : jq_LV RX4 127 mX4_askPoints 0 := ⟨⟨ji_X4, jc_X4_askPoints, by decide +kernel, Or.inl (jq_in1 420 (by decide +kernel) rfl)⟩, jn_X4_askPoints, js_X4_askPoints⟩
theorem kX4_130 : jq_LV RX4 130 mX4_askWays 0 := ⟨⟨ji_X4, jc_X4_askWays, by decide +kernel, Or.inl (jq_in1 424 (by decide +kernel) rfl)⟩, jn_X4_askWays, js_X4_askWays⟩
theorem kX4_140 : jq_LV RX4 140 mX0_joinsPointsOf 2 := ⟨⟨ji_X0, jc_X0_joinsPointsOf, by decide +kernel, Or.inl (jq_in1 428 (by decide +kernel) rfl)⟩, jn_X0_joinsPointsOf, js_X0_joinsPointsOf⟩
theorem kX0_95 : jq_LV RX0 95 mX0_touches 2 := ⟨⟨ji_X0, jc_X0_touches, by decide +kernel, Or.inl (jq_in1 432 (by decide +kernel) rfl)⟩, jn_X0_touches, js_X0_touches⟩
theorem kX4_133 : jq_LV RX4 133 mX4_askColours 0 := ⟨⟨ji_X4, jc_X4_askColours, by decide +kernel, Or.inl (jq_in1 433 (by decide +kernel) rfl)⟩, jn_X4_askColours, js_X4_askColours⟩
theorem kX4_143 : jq_LV RX4 143 mX1_areJoined 2 := ⟨⟨ji_X1, jc_X1_areJoined, by decide +kernel, Or.inl (jq_in1 437 (by decide +kernel) rfl)⟩, jn_X1_areJoined, js_X1_areJoined⟩
theorem kX4_147 : jq_LV RX4 147 mX1_differ 2 := ⟨⟨ji_X1, jc_X1_differ, by decide +kernel, Or.inl (jq_in1 438 (by decide +kernel) rfl)⟩, jn_X1_differ, js_X1_differ⟩
theorem kX2_69 : jq_LV RX2 69 mX4_isTorn 0 := ⟨⟨ji_X4, jc_X4_isTorn, by decide +kernel, Or.inl (jq_in1 439 (by decide +kernel) rfl)⟩, jn_X4_isTorn, js_X4_isTorn⟩
theorem kX2_78 : jq_LV RX2 78 mX2_decide 0 := ⟨⟨ji_X2, jc_X2_decide, by decide +kernel, Or.inl (jq_in1 443 (by decide +kernel) rfl)⟩, jn_X2_decide, js_X2_decide⟩
theorem kX2_81 : jq_LV RX2 81 mX4_firstRuleFor 1 := ⟨⟨ji_X4, jc_X4_firstRuleFor, by decide +kernel, Or.inl (jq_in1 447 (by decide +kernel) rfl)⟩, jn_X4_firstRuleFor, js_X4_firstRuleFor⟩
theorem kX5_100 : jq_LS RX5 100 mJ13_bitCount_95d88 1 := ⟨⟨ji_J13, jc_J13_bitCount_95d88, by decide +kernel, Or.inl (jq_in1 451 (by decide +kernel) rfl)⟩, jt_J13_bitCount_95d88⟩
theorem kL_97 : jq_LV RL 97 mX5_lines 0 := ⟨⟨ji_X5, jc_X5_lines, by decide +kernel, Or.inl (jq_in1 452 (by decide +kernel) rfl)⟩, jn_X5_lines, js_X5_lines⟩
theorem kL_101 : jq_LV RL 101 mX5_ways 0 := ⟨⟨ji_X5, jc_X5_ways, by decide +kernel, Or.inl (jq_in1 456 (by decide +kernel) rfl)⟩, jn_X5_ways, js_X5_ways⟩
theorem kX5_117 : jq_LV RX5 117 mX0_firstWay 1 := ⟨⟨ji_X0, jc_X0_firstWay, by decide +kernel, Or.inl (jq_in1 460 (by decide +kernel) rfl)⟩, jn_X0_firstWay, js_X0_firstWay⟩
theorem kL_105 : jq_LV RL 105 mX5_broken 0 := ⟨⟨ji_X5, jc_X5_broken, by decide +kernel, Or.inl (jq_in1 462 (by decide +kernel) rfl)⟩, jn_X5_broken, js_X5_broken⟩
theorem kX5_121 : jq_LV RX5 121 mX4_look 2 := ⟨⟨ji_X4, jc_X4_look, by decide +kernel, Or.inl (jq_in1 466 (by decide +kernel) rfl)⟩, jn_X4_look, js_X4_look⟩
theorem kX5_124 : jq_LV RX5 124 mX4_reason 0 := ⟨⟨ji_X4, jc_X4_reason, by decide +kernel, Or.inl (jq_in1 467 (by decide +kernel) rfl)⟩, jn_X4_reason, js_X4_reason⟩
theorem kL_109 : jq_LV RL 109 mX5_isAnswer 0 := ⟨⟨ji_X5, jc_X5_isAnswer, by decide +kernel, Or.inl (jq_in1 468 (by decide +kernel) rfl)⟩, jn_X5_isAnswer, js_X5_isAnswer⟩
theorem kX5_128 : jq_LV RX5 128 mX0_isLoop 1 := ⟨⟨ji_X0, jc_X0_isLoop, by decide +kernel, Or.inl (jq_in1 472 (by decide +kernel) rfl)⟩, jn_X0_isLoop, js_X0_isLoop⟩
theorem kX5_132 : jq_LV RX5 132 mX0_numbersAreRight 2 := ⟨⟨ji_X0, jc_X0_numbersAreRight, by decide +kernel, Or.inl (jq_in1 473 (by decide +kernel) rfl)⟩, jn_X0_numbersAreRight, js_X0_numbersAreRight⟩
theorem kL_124 : jq_LV RL 124 mX5_rounds 0 := ⟨⟨ji_X5, jc_X5_rounds, by decide +kernel, Or.inl (jq_in1 474 (by decide +kernel) rfl)⟩, jn_X5_rounds, js_X5_rounds⟩
theorem kL_128 : jq_LV RL 128 mX5_end 0 := ⟨⟨ji_X5, jc_X5_end, by decide +kernel, Or.inl (jq_in1 478 (by decide +kernel) rfl)⟩, jn_X5_end, js_X5_end⟩
theorem kL_132 : jq_LV RL 132 mX5_hint 0 := ⟨⟨ji_X5, jc_X5_hint, by decide +kernel, Or.inl (jq_in1 482 (by decide +kernel) rfl)⟩, jn_X5_hint, js_X5_hint⟩
theorem kX5_145 : jq_LV RX5 145 mX4_askRules 0 := ⟨⟨ji_X4, jc_X4_askRules, by decide +kernel, Or.inl (jq_in1 486 (by decide +kernel) rfl)⟩, jn_X4_askRules, js_X4_askRules⟩
theorem kX5_154 : jq_LS RX5 154 mX5_has 2 := ⟨⟨ji_X5, jc_X5_has, by decide +kernel, Or.inl (jq_in1 487 (by decide +kernel) rfl)⟩, jt_X5_has⟩
theorem kL_136 : jq_LV RL 136 mX5_answers 0 := ⟨⟨ji_X5, jc_X5_answers, by decide +kernel, Or.inl (jq_in1 488 (by decide +kernel) rfl)⟩, jn_X5_answers, js_X5_answers⟩
theorem kX5_157 : jq_LV RX5 157 mX3_countAnswers 3 := ⟨⟨ji_X3, jc_X3_countAnswers, by decide +kernel, Or.inl (jq_in1 492 (by decide +kernel) rfl)⟩, jn_X3_countAnswers, js_X3_countAnswers⟩
theorem kX3_57 : jq_LV RX3 57 mX3_find 0 := ⟨⟨ji_X3, jc_X3_find, by decide +kernel, Or.inl (jq_in1 496 (by decide +kernel) rfl)⟩, jn_X3_find, js_X3_find⟩
theorem kX3_27 : jq_LS RX3 27 mX3_grow 3 := ⟨⟨ji_X3, jc_X3_grow, by decide +kernel, Or.inl (jq_in1 500 (by decide +kernel) rfl)⟩, jt_X3_grow⟩
theorem kX3_37 : jq_LV RX3 37 mX0_hasFork 2 := ⟨⟨ji_X0, jc_X0_hasFork, by decide +kernel, Or.inl (jq_in1 503 (by decide +kernel) rfl)⟩, jn_X0_hasFork, js_X0_hasFork⟩
theorem kX3_44 : jq_LV RX3 44 mX0_isLoop 1 := ⟨⟨ji_X0, jc_X0_isLoop, by decide +kernel, Or.inl (jq_in1 507 (by decide +kernel) rfl)⟩, jn_X0_isLoop, js_X0_isLoop⟩
theorem kX3_51 : jq_LS RX3 51 mX5_has 2 := ⟨⟨ji_X5, jc_X5_has, by decide +kernel, Or.inr ⟨"SlitherFence", jq_inN 508 (by decide +kernel) rfl⟩⟩, jt_X5_has⟩
theorem kX3_60 : jq_LV RX3 60 mX3_isAnswerFor 4 := ⟨⟨ji_X3, jc_X3_isAnswerFor, by decide +kernel, Or.inl (jq_in1 509 (by decide +kernel) rfl)⟩, jn_X3_isAnswerFor, js_X3_isAnswerFor⟩
theorem kX3_54 : jq_LV RX3 54 mX0_numbersAreRight 2 := ⟨⟨ji_X0, jc_X0_numbersAreRight, by decide +kernel, Or.inl (jq_in1 513 (by decide +kernel) rfl)⟩, jn_X0_numbersAreRight, js_X0_numbersAreRight⟩
theorem kL_7 : jq_LV RL 7 mX5_lay 2 := ⟨⟨ji_X5, jc_X5_lay, by decide +kernel, Or.inl (jq_in1 518 (by decide +kernel) rfl)⟩, jn_X5_lay, js_X5_lay⟩
theorem kX5_52 : jq_LV RX5 52 mX3_forget 0 := ⟨⟨ji_X3, jc_X3_forget, by decide +kernel, Or.inl (jq_in1 590 (by decide +kernel) rfl)⟩, jn_X3_forget, js_X3_forget⟩
theorem kL_15 : jq_LV RL 15 mX5_number 2 := ⟨⟨ji_X5, jc_X5_number, by decide +kernel, Or.inl (jq_in1 598 (by decide +kernel) rfl)⟩, jn_X5_number, js_X5_number⟩
theorem kX5_65 : jq_LV RX5 65 mX5_requireCell 1 := ⟨⟨ji_X5, jc_X5_requireCell, by decide +kernel, Or.inl (jq_in1 602 (by decide +kernel) rfl)⟩, jn_X5_requireCell, js_X5_requireCell⟩
theorem kL_21 : jq_LV RL 21 mX5_mark 2 := ⟨⟨ji_X5, jc_X5_mark, by decide +kernel, Or.inl (jq_in1 626 (by decide +kernel) rfl)⟩, jn_X5_mark, js_X5_mark⟩
theorem kX5_75 : jq_LV RX5 75 mX5_requireEdge 1 := ⟨⟨ji_X5, jc_X5_requireEdge, by decide +kernel, Or.inl (jq_in1 630 (by decide +kernel) rfl)⟩, jn_X5_requireEdge, js_X5_requireEdge⟩
theorem kX5_87 : jq_LS RX5 87 mX5_stateIn 3 := ⟨⟨ji_X5, jc_X5_stateIn, by decide +kernel, Or.inl (jq_in1 636 (by decide +kernel) rfl)⟩, jt_X5_stateIn⟩
theorem kL_24 : jq_LV RL 24 mX5_edgeOf 2 := ⟨⟨ji_X5, jc_X5_edgeOf, by decide +kernel, Or.inl (jq_in1 642 (by decide +kernel) rfl)⟩, jn_X5_edgeOf, js_X5_edgeOf⟩
theorem kX5_113 : jq_LV RX5 113 mX0_edgeAt 2 := ⟨⟨ji_X0, jc_X0_edgeAt, by decide +kernel, Or.inl (jq_in1 647 (by decide +kernel) rfl)⟩, jn_X0_edgeAt, js_X0_edgeAt⟩
theorem kL_27 : jq_LV RL 27 mX5_follows 1 := ⟨⟨ji_X5, jc_X5_follows, by decide +kernel, Or.inl (jq_in1 654 (by decide +kernel) rfl)⟩, jn_X5_follows, js_X5_follows⟩
theorem kL_31 : jq_LV RL 31 mX5_roundOf 1 := ⟨⟨ji_X5, jc_X5_roundOf, by decide +kernel, Or.inl (jq_in1 661 (by decide +kernel) rfl)⟩, jn_X5_roundOf, js_X5_roundOf⟩
theorem kL_34 : jq_LV RL 34 mX5_ruleOf 1 := ⟨⟨ji_X5, jc_X5_ruleOf, by decide +kernel, Or.inl (jq_in1 668 (by decide +kernel) rfl)⟩, jn_X5_ruleOf, js_X5_ruleOf⟩
theorem kL_37 : jq_LV RL 37 mX5_answer 1 := ⟨⟨ji_X5, jc_X5_answer, by decide +kernel, Or.inl (jq_in1 675 (by decide +kernel) rfl)⟩, jn_X5_answer, js_X5_answer⟩
theorem kX5_160 : jq_LV RX5 160 mX5_requireAnswer 1 := ⟨⟨ji_X5, jc_X5_requireAnswer, by decide +kernel, Or.inl (jq_in1 679 (by decide +kernel) rfl)⟩, jn_X5_requireAnswer, js_X5_requireAnswer⟩
theorem kX5_185 : jq_LV RX5 185 mX3_findAnswer 3 := ⟨⟨ji_X3, jc_X3_findAnswer, by decide +kernel, Or.inl (jq_in1 683 (by decide +kernel) rfl)⟩, jn_X3_findAnswer, js_X3_findAnswer⟩
theorem kL_41 : jq_LV RL 41 mX5_isInside 2 := ⟨⟨ji_X5, jc_X5_isInside, by decide +kernel, Or.inl (jq_in1 691 (by decide +kernel) rfl)⟩, jn_X5_isInside, js_X5_isInside⟩
theorem kL_45 : jq_LV RL 45 mX5_proved 1 := ⟨⟨ji_X5, jc_X5_proved, by decide +kernel, Or.inl (jq_in1 699 (by decide +kernel) rfl)⟩, jn_X5_proved, js_X5_proved⟩
theorem kX5_168 : jq_LV RX5 168 mX5_requireSomeAnswer 0 := ⟨⟨ji_X5, jc_X5_requireSomeAnswer, by decide +kernel, Or.inl (jq_in1 703 (by decide +kernel) rfl)⟩, jn_X5_requireSomeAnswer, js_X5_requireSomeAnswer⟩
theorem kX5_171 : jq_LV RX5 171 mX3_linesOfAll 2 := ⟨⟨ji_X3, jc_X3_linesOfAll, by decide +kernel, Or.inl (jq_in1 723 (by decide +kernel) rfl)⟩, jn_X3_linesOfAll, js_X3_linesOfAll⟩
theorem kX5_175 : jq_LV RX5 175 mX3_linesOfSome 2 := ⟨⟨ji_X3, jc_X3_linesOfSome, by decide +kernel, Or.inl (jq_in1 727 (by decide +kernel) rfl)⟩, jn_X3_linesOfSome, js_X3_linesOfSome⟩
theorem kL_50 : jq_LV RL 50 mX5_beyondRules 0 := ⟨⟨ji_X5, jc_X5_beyondRules, by decide +kernel, Or.inl (jq_in1 734 (by decide +kernel) rfl)⟩, jn_X5_beyondRules, js_X5_beyondRules⟩
theorem kL_54 : jq_LV RL 54 mX5_isNeeded 1 := ⟨⟨ji_X5, jc_X5_isNeeded, by decide +kernel, Or.inl (jq_in1 741 (by decide +kernel) rfl)⟩, jn_X5_isNeeded, js_X5_isNeeded⟩
theorem kL_61 : jq_LI RL 61 mX6_init 0 := ⟨⟨ji_X6, jc_X6_init, by decide +kernel, Or.inl (jq_in1 747 (by decide +kernel) rfl)⟩, jn_X6_init, rfl, rfl⟩
theorem kX6_63 : jq_LV RX6 63 mX6_lays 2 := ⟨⟨ji_X6, jc_X6_lays, by decide +kernel, Or.inl (jq_in1 751 (by decide +kernel) rfl)⟩, jn_X6_lays, js_X6_lays⟩
theorem kX6_86 : jq_LV RX6 86 mX6_cellAt 2 := ⟨⟨ji_X6, jc_X6_cellAt, by decide +kernel, Or.inl (jq_in1 755 (by decide +kernel) rfl)⟩, jn_X6_cellAt, js_X6_cellAt⟩
theorem kL_68 : jq_LV RL 68 mX6_thrown 0 := ⟨⟨ji_X6, jc_X6_thrown, by decide +kernel, Or.inl (jq_in1 842 (by decide +kernel) rfl)⟩, jn_X6_thrown, js_X6_thrown⟩
theorem kL_67 : jq_LV RL 67 mX6_lay 2 := ⟨⟨ji_X6, jc_X6_lay, by decide +kernel, Or.inl (jq_in1 846 (by decide +kernel) rfl)⟩, jn_X6_lay, js_X6_lay⟩
theorem kX6_90 : jq_LV RX6 90 mX6_may 1 := ⟨⟨ji_X6, jc_X6_may, by decide +kernel, Or.inl (jq_in1 850 (by decide +kernel) rfl)⟩, jn_X6_may, js_X6_may⟩
theorem kL_74 : jq_LV RL 74 mX6_cells 0 := ⟨⟨ji_X6, jc_X6_cells, by decide +kernel, Or.inl (jq_in1 854 (by decide +kernel) rfl)⟩, jn_X6_cells, js_X6_cells⟩
theorem kL_78 : jq_LV RL 78 mX6_edges 0 := ⟨⟨ji_X6, jc_X6_edges, by decide +kernel, Or.inl (jq_in1 858 (by decide +kernel) rfl)⟩, jn_X6_edges, js_X6_edges⟩
theorem kL_82 : jq_LV RL 82 mX6_number 2 := ⟨⟨ji_X6, jc_X6_number, by decide +kernel, Or.inl (jq_in1 862 (by decide +kernel) rfl)⟩, jn_X6_number, js_X6_number⟩
theorem kX6_94 : jq_LV RX6 94 mX6_isCell 1 := ⟨⟨ji_X6, jc_X6_isCell, by decide +kernel, Or.inl (jq_in1 866 (by decide +kernel) rfl)⟩, jn_X6_isCell, js_X6_isCell⟩
theorem kX6_98 : jq_LV RX6 98 mX6_mayBoth 2 := ⟨⟨ji_X6, jc_X6_mayBoth, by decide +kernel, Or.inl (jq_in1 870 (by decide +kernel) rfl)⟩, jn_X6_mayBoth, js_X6_mayBoth⟩
theorem kL_85 : jq_LV RL 85 mX6_mark 2 := ⟨⟨ji_X6, jc_X6_mark, by decide +kernel, Or.inl (jq_in1 874 (by decide +kernel) rfl)⟩, jn_X6_mark, js_X6_mark⟩
theorem kX6_102 : jq_LV RX6 102 mX6_isEdge 1 := ⟨⟨ji_X6, jc_X6_isEdge, by decide +kernel, Or.inl (jq_in1 878 (by decide +kernel) rfl)⟩, jn_X6_isEdge, js_X6_isEdge⟩
theorem kL_89 : jq_LV RL 89 mX6_wipe 0 := ⟨⟨ji_X6, jc_X6_wipe, by decide +kernel, Or.inl (jq_in1 882 (by decide +kernel) rfl)⟩, jn_X6_wipe, js_X6_wipe⟩
theorem kL_93 : jq_LV RL 93 mX6_markAll 0 := ⟨⟨ji_X6, jc_X6_markAll, by decide +kernel, Or.inl (jq_in1 886 (by decide +kernel) rfl)⟩, jn_X6_markAll, js_X6_markAll⟩
theorem kX6_105 : jq_LV RX6 105 mX6_follow 0 := ⟨⟨ji_X6, jc_X6_follow, by decide +kernel, Or.inl (jq_in1 890 (by decide +kernel) rfl)⟩, jn_X6_follow, js_X6_follow⟩
theorem kX6_150 : jq_LV RX6 150 mX6_takeMarks 0 := ⟨⟨ji_X6, jc_X6_takeMarks, by decide +kernel, Or.inl (jq_in1 894 (by decide +kernel) rfl)⟩, jn_X6_takeMarks, js_X6_takeMarks⟩
theorem kX6_156 : jq_LV RX6 156 mX6_brokenBy 0 := ⟨⟨ji_X6, jc_X6_brokenBy, by decide +kernel, Or.inl (jq_in1 898 (by decide +kernel) rfl)⟩, jn_X6_brokenBy, js_X6_brokenBy⟩
theorem kX6_111 : jq_LV RX6 111 mX6_around 2 := ⟨⟨ji_X6, jc_X6_around, by decide +kernel, Or.inl (jq_in1 902 (by decide +kernel) rfl)⟩, jn_X6_around, js_X6_around⟩
theorem kX6_114 : jq_LV RX6 114 mX6_at 2 := ⟨⟨ji_X6, jc_X6_at, by decide +kernel, Or.inl (jq_in1 906 (by decide +kernel) rfl)⟩, jn_X6_at, js_X6_at⟩
theorem kX6_121 : jq_LV RX6 121 mX6_labels 0 := ⟨⟨ji_X6, jc_X6_labels, by decide +kernel, Or.inl (jq_in1 910 (by decide +kernel) rfl)⟩, jn_X6_labels, js_X6_labels⟩
theorem kX6_124 : jq_LV RX6 124 mX6_hasLoop 0 := ⟨⟨ji_X6, jc_X6_hasLoop, by decide +kernel, Or.inl (jq_in1 914 (by decide +kernel) rfl)⟩, jn_X6_hasLoop, js_X6_hasLoop⟩
theorem kX6_117 : jq_LV RX6 117 mX6_waysOf 0 := ⟨⟨ji_X6, jc_X6_waysOf, by decide +kernel, Or.inl (jq_in1 918 (by decide +kernel) rfl)⟩, jn_X6_waysOf, js_X6_waysOf⟩
theorem kX6_128 : jq_LV RX6 128 mX6_areRight 0 := ⟨⟨ji_X6, jc_X6_areRight, by decide +kernel, Or.inl (jq_in1 922 (by decide +kernel) rfl)⟩, jn_X6_areRight, js_X6_areRight⟩
theorem kX6_131 : jq_LV RX6 131 mX6_chains 0 := ⟨⟨ji_X6, jc_X6_chains, by decide +kernel, Or.inl (jq_in1 926 (by decide +kernel) rfl)⟩, jn_X6_chains, js_X6_chains⟩
theorem kX6_159 : jq_LV RX6 159 mX6_asks 0 := ⟨⟨ji_X6, jc_X6_asks, by decide +kernel, Or.inl (jq_in1 930 (by decide +kernel) rfl)⟩, jn_X6_asks, js_X6_asks⟩
theorem kX6_141 : jq_LV RX6 141 mX6_wantAround 3 := ⟨⟨ji_X6, jc_X6_wantAround, by decide +kernel, Or.inl (jq_in1 934 (by decide +kernel) rfl)⟩, jn_X6_wantAround, js_X6_wantAround⟩
theorem kX6_134 : jq_LV RX6 134 mX6_want 3 := ⟨⟨ji_X6, jc_X6_want, by decide +kernel, Or.inl (jq_in1 938 (by decide +kernel) rfl)⟩, jn_X6_want, js_X6_want⟩
theorem kX6_144 : jq_LV RX6 144 mX6_wantAt 3 := ⟨⟨ji_X6, jc_X6_wantAt, by decide +kernel, Or.inl (jq_in1 942 (by decide +kernel) rfl)⟩, jn_X6_wantAt, js_X6_wantAt⟩
theorem kX6_147 : jq_LV RX6 147 mX6_closes 1 := ⟨⟨ji_X6, jc_X6_closes, by decide +kernel, Or.inl (jq_in1 946 (by decide +kernel) rfl)⟩, jn_X6_closes, js_X6_closes⟩
theorem kX6_138 : jq_LV RX6 138 mX6_isLoop 0 := ⟨⟨ji_X6, jc_X6_isLoop, by decide +kernel, Or.inl (jq_in1 950 (by decide +kernel) rfl)⟩, jn_X6_isLoop, js_X6_isLoop⟩
theorem kL_96 : jq_LV RL 96 mX6_edgeOf 2 := ⟨⟨ji_X6, jc_X6_edgeOf, by decide +kernel, Or.inl (jq_in1 954 (by decide +kernel) rfl)⟩, jn_X6_edgeOf, js_X6_edgeOf⟩
theorem kL_100 : jq_LV RL 100 mX6_lines 0 := ⟨⟨ji_X6, jc_X6_lines, by decide +kernel, Or.inl (jq_in1 958 (by decide +kernel) rfl)⟩, jn_X6_lines, js_X6_lines⟩
theorem kX6_162 : jq_LV RX6 162 mX6_count 1 := ⟨⟨ji_X6, jc_X6_count, by decide +kernel, Or.inl (jq_in1 962 (by decide +kernel) rfl)⟩, jn_X6_count, js_X6_count⟩
theorem kL_104 : jq_LV RL 104 mX6_ways 0 := ⟨⟨ji_X6, jc_X6_ways, by decide +kernel, Or.inl (jq_in1 966 (by decide +kernel) rfl)⟩, jn_X6_ways, js_X6_ways⟩
theorem kL_108 : jq_LV RL 108 mX6_broken 0 := ⟨⟨ji_X6, jc_X6_broken, by decide +kernel, Or.inl (jq_in1 970 (by decide +kernel) rfl)⟩, jn_X6_broken, js_X6_broken⟩
theorem kL_113 : jq_LV RL 113 mX6_isAnswer 0 := ⟨⟨ji_X6, jc_X6_isAnswer, by decide +kernel, Or.inl (jq_in1 974 (by decide +kernel) rfl)⟩, jn_X6_isAnswer, js_X6_isAnswer⟩
theorem kL_117 : jq_LV RL 117 mX6_follows 1 := ⟨⟨ji_X6, jc_X6_follows, by decide +kernel, Or.inl (jq_in1 978 (by decide +kernel) rfl)⟩, jn_X6_follows, js_X6_follows⟩
theorem kL_120 : jq_LV RL 120 mX6_roundOf 1 := ⟨⟨ji_X6, jc_X6_roundOf, by decide +kernel, Or.inl (jq_in1 982 (by decide +kernel) rfl)⟩, jn_X6_roundOf, js_X6_roundOf⟩
theorem kL_123 : jq_LV RL 123 mX6_ruleOf 1 := ⟨⟨ji_X6, jc_X6_ruleOf, by decide +kernel, Or.inl (jq_in1 986 (by decide +kernel) rfl)⟩, jn_X6_ruleOf, js_X6_ruleOf⟩
theorem kL_127 : jq_LV RL 127 mX6_rounds 0 := ⟨⟨ji_X6, jc_X6_rounds, by decide +kernel, Or.inl (jq_in1 990 (by decide +kernel) rfl)⟩, jn_X6_rounds, js_X6_rounds⟩
theorem kL_131 : jq_LV RL 131 mX6_end 0 := ⟨⟨ji_X6, jc_X6_end, by decide +kernel, Or.inl (jq_in1 994 (by decide +kernel) rfl)⟩, jn_X6_end, js_X6_end⟩
theorem kL_135 : jq_LV RL 135 mX6_hint 0 := ⟨⟨ji_X6, jc_X6_hint, by decide +kernel, Or.inl (jq_in1 998 (by decide +kernel) rfl)⟩, jn_X6_hint, js_X6_hint⟩
theorem kL_139 : jq_LV RL 139 mX6_answers 0 := ⟨⟨ji_X6, jc_X6_answers, by decide +kernel, Or.inl (jq_in1 1002 (by decide +kernel) rfl)⟩, jn_X6_answers, js_X6_answers⟩
theorem kX6_190 : jq_LV RX6 190 mX6_answersWithout 1 := ⟨⟨ji_X6, jc_X6_answersWithout, by decide +kernel, Or.inl (jq_in1 1006 (by decide +kernel) rfl)⟩, jn_X6_answersWithout, js_X6_answersWithout⟩
theorem kX6_184 : jq_LV RX6 184 mX6_findLoops 0 := ⟨⟨ji_X6, jc_X6_findLoops, by decide +kernel, Or.inl (jq_in1 1010 (by decide +kernel) rfl)⟩, jn_X6_findLoops, js_X6_findLoops⟩
theorem kX6_176 : jq_LV RX6 176 mX6_border 1 := ⟨⟨ji_X6, jc_X6_border, by decide +kernel, Or.inl (jq_in1 1014 (by decide +kernel) rfl)⟩, jn_X6_border, js_X6_border⟩
theorem kX6_166 : jq_LS RX6 166 mX6_has 2 := ⟨⟨ji_X6, jc_X6_has, by decide +kernel, Or.inl (jq_in1 1018 (by decide +kernel) rfl)⟩, jt_X6_has⟩
theorem kX6_180 : jq_LS RX6 180 mX6_isAhead 2 := ⟨⟨ji_X6, jc_X6_isAhead, by decide +kernel, Or.inl (jq_in1 1021 (by decide +kernel) rfl)⟩, jt_X6_isAhead⟩
theorem kX6_187 : jq_LV RX6 187 mX6_fits 2 := ⟨⟨ji_X6, jc_X6_fits, by decide +kernel, Or.inl (jq_in1 1024 (by decide +kernel) rfl)⟩, jn_X6_fits, js_X6_fits⟩
theorem kL_142 : jq_LV RL 142 mX6_answer 1 := ⟨⟨ji_X6, jc_X6_answer, by decide +kernel, Or.inl (jq_in1 1028 (by decide +kernel) rfl)⟩, jn_X6_answer, js_X6_answer⟩
theorem kX6_193 : jq_LV RX6 193 mX6_find 1 := ⟨⟨ji_X6, jc_X6_find, by decide +kernel, Or.inl (jq_in1 1032 (by decide +kernel) rfl)⟩, jn_X6_find, js_X6_find⟩
theorem kL_145 : jq_LV RL 145 mX6_isInside 2 := ⟨⟨ji_X6, jc_X6_isInside, by decide +kernel, Or.inl (jq_in1 1036 (by decide +kernel) rfl)⟩, jn_X6_isInside, js_X6_isInside⟩
theorem kL_148 : jq_LV RL 148 mX6_proved 1 := ⟨⟨ji_X6, jc_X6_proved, by decide +kernel, Or.inl (jq_in1 1040 (by decide +kernel) rfl)⟩, jn_X6_proved, js_X6_proved⟩
theorem kX6_196 : jq_LV RX6 196 mX6_having 1 := ⟨⟨ji_X6, jc_X6_having, by decide +kernel, Or.inl (jq_in1 1044 (by decide +kernel) rfl)⟩, jn_X6_having, js_X6_having⟩
theorem kL_152 : jq_LV RL 152 mX6_beyondRules 0 := ⟨⟨ji_X6, jc_X6_beyondRules, by decide +kernel, Or.inl (jq_in1 1048 (by decide +kernel) rfl)⟩, jn_X6_beyondRules, js_X6_beyondRules⟩
theorem kL_155 : jq_LV RL 155 mX6_isNeeded 1 := ⟨⟨ji_X6, jc_X6_isNeeded, by decide +kernel, Or.inl (jq_in1 1052 (by decide +kernel) rfl)⟩, jn_X6_isNeeded, js_X6_isNeeded⟩
theorem fX0_9 : jq_FL RX0 9 0 0 := ⟨RX0, TX0, 16, rfl, by decide, jw_X0, Or.inl (jq_in1 83 (by decide +kernel) rfl)⟩
theorem pX0_9 : jq_FP RX0 9 0 0 true (.array .int) := ⟨RX0, TX0, 16, tyX0, rfl, by decide, jw_X0, tyX0_ok, nmX0, ⟨rfl, by decide +kernel, Or.inl rfl⟩, Or.inl (jq_in1 83 (by decide +kernel) rfl)⟩
theorem fX4_80 : jq_FL RX4 80 0 0 := ⟨RX0, TX0, 16, rfl, by decide, jw_X0, Or.inr ⟨"SlitherFence", jq_inN 84 (by decide +kernel) rfl⟩⟩
theorem fX5_71 : jq_FL RX5 71 0 0 := ⟨RX0, TX0, 16, rfl, by decide, jw_X0, Or.inr ⟨"SlitherFence", jq_inN 85 (by decide +kernel) rfl⟩⟩
theorem fX0_15 : jq_FL RX0 15 0 1 := ⟨RX0, TX0, 16, rfl, by decide, jw_X0, Or.inl (jq_in1 86 (by decide +kernel) rfl)⟩
theorem pX0_15 : jq_FP RX0 15 0 1 true (.array .long) := ⟨RX0, TX0, 16, tyX0, rfl, by decide, jw_X0, tyX0_ok, nmX0, ⟨rfl, by decide +kernel, Or.inl rfl⟩, Or.inl (jq_in1 86 (by decide +kernel) rfl)⟩
theorem fX4_83 : jq_FL RX4 83 0 1 := ⟨RX0, TX0, 16, rfl, by decide, jw_X0, Or.inr ⟨"SlitherFence", jq_inN 87 (by decide +kernel) rfl⟩⟩
theorem fX3_48 : jq_FL RX3 48 0 1 := ⟨RX0, TX0, 16, rfl, by decide, jw_X0, Or.inr ⟨"SlitherFence", jq_inN 88 (by decide +kernel) rfl⟩⟩
theorem fX0_19 : jq_FL RX0 19 0 2 := ⟨RX0, TX0, 16, rfl, by decide, jw_X0, Or.inl (jq_in1 89 (by decide +kernel) rfl)⟩
theorem pX0_19 : jq_FP RX0 19 0 2 true (.array .long) := ⟨RX0, TX0, 16, tyX0, rfl, by decide, jw_X0, tyX0_ok, nmX0, ⟨rfl, by decide +kernel, Or.inl rfl⟩, Or.inl (jq_in1 89 (by decide +kernel) rfl)⟩
theorem fX4_95 : jq_FL RX4 95 0 2 := ⟨RX0, TX0, 16, rfl, by decide, jw_X0, Or.inr ⟨"SlitherFence", jq_inN 90 (by decide +kernel) rfl⟩⟩
theorem fX0_22 : jq_FL RX0 22 0 3 := ⟨RX0, TX0, 16, rfl, by decide, jw_X0, Or.inl (jq_in1 91 (by decide +kernel) rfl)⟩
theorem pX0_22 : jq_FP RX0 22 0 3 true (.array .int) := ⟨RX0, TX0, 16, tyX0, rfl, by decide, jw_X0, tyX0_ok, nmX0, ⟨rfl, by decide +kernel, Or.inl rfl⟩, Or.inl (jq_in1 91 (by decide +kernel) rfl)⟩
theorem fX0_25 : jq_FL RX0 25 0 4 := ⟨RX0, TX0, 16, rfl, by decide, jw_X0, Or.inl (jq_in1 92 (by decide +kernel) rfl)⟩
theorem pX0_25 : jq_FP RX0 25 0 4 true (.array .int) := ⟨RX0, TX0, 16, tyX0, rfl, by decide, jw_X0, tyX0_ok, nmX0, ⟨rfl, by decide +kernel, Or.inl rfl⟩, Or.inl (jq_in1 92 (by decide +kernel) rfl)⟩
theorem fX0_28 : jq_FL RX0 28 0 5 := ⟨RX0, TX0, 16, rfl, by decide, jw_X0, Or.inl (jq_in1 93 (by decide +kernel) rfl)⟩
theorem pX0_28 : jq_FP RX0 28 0 5 true (.array .int) := ⟨RX0, TX0, 16, tyX0, rfl, by decide, jw_X0, tyX0_ok, nmX0, ⟨rfl, by decide +kernel, Or.inl rfl⟩, Or.inl (jq_in1 93 (by decide +kernel) rfl)⟩
theorem fX4_55 : jq_FL RX4 55 0 5 := ⟨RX0, TX0, 16, rfl, by decide, jw_X0, Or.inr ⟨"SlitherFence", jq_inN 94 (by decide +kernel) rfl⟩⟩
theorem fX0_31 : jq_FL RX0 31 0 6 := ⟨RX0, TX0, 16, rfl, by decide, jw_X0, Or.inl (jq_in1 95 (by decide +kernel) rfl)⟩
theorem pX0_31 : jq_FP RX0 31 0 6 true (.array .int) := ⟨RX0, TX0, 16, tyX0, rfl, by decide, jw_X0, tyX0_ok, nmX0, ⟨rfl, by decide +kernel, Or.inl rfl⟩, Or.inl (jq_in1 95 (by decide +kernel) rfl)⟩
theorem fX4_59 : jq_FL RX4 59 0 6 := ⟨RX0, TX0, 16, rfl, by decide, jw_X0, Or.inr ⟨"SlitherFence", jq_inN 96 (by decide +kernel) rfl⟩⟩
theorem fX0_34 : jq_FL RX0 34 0 7 := ⟨RX0, TX0, 16, rfl, by decide, jw_X0, Or.inl (jq_in1 97 (by decide +kernel) rfl)⟩
theorem pX0_34 : jq_FP RX0 34 0 7 true (.array .int) := ⟨RX0, TX0, 16, tyX0, rfl, by decide, jw_X0, tyX0_ok, nmX0, ⟨rfl, by decide +kernel, Or.inl rfl⟩, Or.inl (jq_in1 97 (by decide +kernel) rfl)⟩
theorem fX3_31 : jq_FL RX3 31 0 7 := ⟨RX0, TX0, 16, rfl, by decide, jw_X0, Or.inr ⟨"SlitherFence", jq_inN 98 (by decide +kernel) rfl⟩⟩
theorem fX0_37 : jq_FL RX0 37 0 8 := ⟨RX0, TX0, 16, rfl, by decide, jw_X0, Or.inl (jq_in1 99 (by decide +kernel) rfl)⟩
theorem pX0_37 : jq_FP RX0 37 0 8 true (.array .long) := ⟨RX0, TX0, 16, tyX0, rfl, by decide, jw_X0, tyX0_ok, nmX0, ⟨rfl, by decide +kernel, Or.inl rfl⟩, Or.inl (jq_in1 99 (by decide +kernel) rfl)⟩
theorem fX5_164 : jq_FL RX5 164 0 8 := ⟨RX0, TX0, 16, rfl, by decide, jw_X0, Or.inr ⟨"SlitherFence", jq_inN 100 (by decide +kernel) rfl⟩⟩
theorem fX0_40 : jq_FL RX0 40 0 9 := ⟨RX0, TX0, 16, rfl, by decide, jw_X0, Or.inl (jq_in1 101 (by decide +kernel) rfl)⟩
theorem pX0_40 : jq_FP RX0 40 0 9 false .int := ⟨RX0, TX0, 16, tyX0, rfl, by decide, jw_X0, tyX0_ok, nmX0, ⟨rfl, by decide +kernel, Or.inr rfl⟩, Or.inl (jq_in1 101 (by decide +kernel) rfl)⟩
theorem fX0_44 : jq_FL RX0 44 0 10 := ⟨RX0, TX0, 16, rfl, by decide, jw_X0, Or.inl (jq_in1 102 (by decide +kernel) rfl)⟩
theorem pX0_44 : jq_FP RX0 44 0 10 false .int := ⟨RX0, TX0, 16, tyX0, rfl, by decide, jw_X0, tyX0_ok, nmX0, ⟨rfl, by decide +kernel, Or.inr rfl⟩, Or.inl (jq_in1 102 (by decide +kernel) rfl)⟩
theorem fX0_47 : jq_FL RX0 47 0 11 := ⟨RX0, TX0, 16, rfl, by decide, jw_X0, Or.inl (jq_in1 103 (by decide +kernel) rfl)⟩
theorem pX0_47 : jq_FP RX0 47 0 11 false .int := ⟨RX0, TX0, 16, tyX0, rfl, by decide, jw_X0, tyX0_ok, nmX0, ⟨rfl, by decide +kernel, Or.inr rfl⟩, Or.inl (jq_in1 103 (by decide +kernel) rfl)⟩
theorem fX4_40 : jq_FL RX4 40 0 11 := ⟨RX0, TX0, 16, rfl, by decide, jw_X0, Or.inr ⟨"SlitherFence", jq_inN 104 (by decide +kernel) rfl⟩⟩
theorem pX4_40 : jq_FP RX4 40 0 11 false .int := ⟨RX0, TX0, 16, tyX0, rfl, by decide, jw_X0, tyX0_ok, nmX0, ⟨rfl, by decide +kernel, Or.inr rfl⟩, Or.inr ⟨rfl, "SlitherFence", jq_inN 104 (by decide +kernel) rfl⟩⟩
theorem fX5_58 : jq_FL RX5 58 0 11 := ⟨RX0, TX0, 16, rfl, by decide, jw_X0, Or.inr ⟨"SlitherFence", jq_inN 105 (by decide +kernel) rfl⟩⟩
theorem pX5_58 : jq_FP RX5 58 0 11 false .int := ⟨RX0, TX0, 16, tyX0, rfl, by decide, jw_X0, tyX0_ok, nmX0, ⟨rfl, by decide +kernel, Or.inr rfl⟩, Or.inr ⟨rfl, "SlitherFence", jq_inN 105 (by decide +kernel) rfl⟩⟩
theorem fX3_41 : jq_FL RX3 41 0 11 := ⟨RX0, TX0, 16, rfl, by decide, jw_X0, Or.inr ⟨"SlitherFence", jq_inN 106 (by decide +kernel) rfl⟩⟩
theorem pX3_41 : jq_FP RX3 41 0 11 false .int := ⟨RX0, TX0, 16, tyX0, rfl, by decide, jw_X0, tyX0_ok, nmX0, ⟨rfl, by decide +kernel, Or.inr rfl⟩, Or.inr ⟨rfl, "SlitherFence", jq_inN 106 (by decide +kernel) rfl⟩⟩
theorem fX0_50 : jq_FL RX0 50 0 12 := ⟨RX0, TX0, 16, rfl, by decide, jw_X0, Or.inl (jq_in1 107 (by decide +kernel) rfl)⟩
theorem pX0_50 : jq_FP RX0 50 0 12 false .int := ⟨RX0, TX0, 16, tyX0, rfl, by decide, jw_X0, tyX0_ok, nmX0, ⟨rfl, by decide +kernel, Or.inr rfl⟩, Or.inl (jq_in1 107 (by decide +kernel) rfl)⟩
theorem fX4_92 : jq_FL RX4 92 0 12 := ⟨RX0, TX0, 16, rfl, by decide, jw_X0, Or.inr ⟨"SlitherFence", jq_inN 108 (by decide +kernel) rfl⟩⟩
theorem pX4_92 : jq_FP RX4 92 0 12 false .int := ⟨RX0, TX0, 16, tyX0, rfl, by decide, jw_X0, tyX0_ok, nmX0, ⟨rfl, by decide +kernel, Or.inr rfl⟩, Or.inr ⟨rfl, "SlitherFence", jq_inN 108 (by decide +kernel) rfl⟩⟩
theorem fX4_48 : jq_FL RX4 48 0 13 := ⟨RX0, TX0, 16, rfl, by decide, jw_X0, Or.inr ⟨"SlitherFence", jq_inN 109 (by decide +kernel) rfl⟩⟩
theorem pX4_48 : jq_FP RX4 48 0 13 false .int := ⟨RX0, TX0, 16, tyX0, rfl, by decide, jw_X0, tyX0_ok, nmX0, ⟨rfl, by decide +kernel, Or.inr rfl⟩, Or.inr ⟨rfl, "SlitherFence", jq_inN 109 (by decide +kernel) rfl⟩⟩
theorem fX0_56 : jq_FL RX0 56 0 13 := ⟨RX0, TX0, 16, rfl, by decide, jw_X0, Or.inl (jq_in1 110 (by decide +kernel) rfl)⟩
theorem pX0_56 : jq_FP RX0 56 0 13 false .int := ⟨RX0, TX0, 16, tyX0, rfl, by decide, jw_X0, tyX0_ok, nmX0, ⟨rfl, by decide +kernel, Or.inr rfl⟩, Or.inl (jq_in1 110 (by decide +kernel) rfl)⟩
theorem fX2_48 : jq_FL RX2 48 0 13 := ⟨RX0, TX0, 16, rfl, by decide, jw_X0, Or.inr ⟨"SlitherFence", jq_inN 111 (by decide +kernel) rfl⟩⟩
theorem pX2_48 : jq_FP RX2 48 0 13 false .int := ⟨RX0, TX0, 16, tyX0, rfl, by decide, jw_X0, tyX0_ok, nmX0, ⟨rfl, by decide +kernel, Or.inr rfl⟩, Or.inr ⟨rfl, "SlitherFence", jq_inN 111 (by decide +kernel) rfl⟩⟩
theorem fX5_62 : jq_FL RX5 62 0 13 := ⟨RX0, TX0, 16, rfl, by decide, jw_X0, Or.inr ⟨"SlitherFence", jq_inN 112 (by decide +kernel) rfl⟩⟩
theorem pX5_62 : jq_FP RX5 62 0 13 false .int := ⟨RX0, TX0, 16, tyX0, rfl, by decide, jw_X0, tyX0_ok, nmX0, ⟨rfl, by decide +kernel, Or.inr rfl⟩, Or.inr ⟨rfl, "SlitherFence", jq_inN 112 (by decide +kernel) rfl⟩⟩
theorem fX0_53 : jq_FL RX0 53 0 14 := ⟨RX0, TX0, 16, rfl, by decide, jw_X0, Or.inl (jq_in1 113 (by decide +kernel) rfl)⟩
theorem pX0_53 : jq_FP RX0 53 0 14 false .int := ⟨RX0, TX0, 16, tyX0, rfl, by decide, jw_X0, tyX0_ok, nmX0, ⟨rfl, by decide +kernel, Or.inr rfl⟩, Or.inl (jq_in1 113 (by decide +kernel) rfl)⟩
theorem fX4_30 : jq_FL RX4 30 0 15 := ⟨RX0, TX0, 16, rfl, by decide, jw_X0, Or.inr ⟨"SlitherFence", jq_inN 114 (by decide +kernel) rfl⟩⟩
theorem pX4_30 : jq_FP RX4 30 0 15 false .long := ⟨RX0, TX0, 16, tyX0, rfl, by decide, jw_X0, tyX0_ok, nmX0, ⟨rfl, by decide +kernel, Or.inr rfl⟩, Or.inr ⟨rfl, "SlitherFence", jq_inN 114 (by decide +kernel) rfl⟩⟩
theorem fX0_59 : jq_FL RX0 59 0 15 := ⟨RX0, TX0, 16, rfl, by decide, jw_X0, Or.inl (jq_in1 115 (by decide +kernel) rfl)⟩
theorem pX0_59 : jq_FP RX0 59 0 15 false .long := ⟨RX0, TX0, 16, tyX0, rfl, by decide, jw_X0, tyX0_ok, nmX0, ⟨rfl, by decide +kernel, Or.inr rfl⟩, Or.inl (jq_in1 115 (by decide +kernel) rfl)⟩
theorem fX3_64 : jq_FL RX3 64 0 15 := ⟨RX0, TX0, 16, rfl, by decide, jw_X0, Or.inr ⟨"SlitherFence", jq_inN 116 (by decide +kernel) rfl⟩⟩
theorem pX3_64 : jq_FP RX3 64 0 15 false .long := ⟨RX0, TX0, 16, tyX0, rfl, by decide, jw_X0, tyX0_ok, nmX0, ⟨rfl, by decide +kernel, Or.inr rfl⟩, Or.inr ⟨rfl, "SlitherFence", jq_inN 116 (by decide +kernel) rfl⟩⟩
theorem fX5_178 : jq_FL RX5 178 0 15 := ⟨RX0, TX0, 16, rfl, by decide, jw_X0, Or.inr ⟨"SlitherFence", jq_inN 117 (by decide +kernel) rfl⟩⟩
theorem pX5_178 : jq_FP RX5 178 0 15 false .long := ⟨RX0, TX0, 16, tyX0, rfl, by decide, jw_X0, tyX0_ok, nmX0, ⟨rfl, by decide +kernel, Or.inr rfl⟩, Or.inr ⟨rfl, "SlitherFence", jq_inN 117 (by decide +kernel) rfl⟩⟩
theorem fX1_9 : jq_FL RX1 9 1 0 := ⟨RX1, TX1, 4, rfl, by decide, jw_X1, Or.inl (jq_in1 165 (by decide +kernel) rfl)⟩
theorem pX1_9 : jq_FP RX1 9 1 0 true (.array .int) := ⟨RX1, TX1, 4, tyX1, rfl, by decide, jw_X1, tyX1_ok, nmX1, ⟨rfl, by decide +kernel, Or.inl rfl⟩, Or.inl (jq_in1 165 (by decide +kernel) rfl)⟩
theorem fX1_15 : jq_FL RX1 15 1 1 := ⟨RX1, TX1, 4, rfl, by decide, jw_X1, Or.inl (jq_in1 166 (by decide +kernel) rfl)⟩
theorem pX1_15 : jq_FP RX1 15 1 1 true (.array .int) := ⟨RX1, TX1, 4, tyX1, rfl, by decide, jw_X1, tyX1_ok, nmX1, ⟨rfl, by decide +kernel, Or.inl rfl⟩, Or.inl (jq_in1 166 (by decide +kernel) rfl)⟩
theorem fX1_18 : jq_FL RX1 18 1 2 := ⟨RX1, TX1, 4, rfl, by decide, jw_X1, Or.inl (jq_in1 167 (by decide +kernel) rfl)⟩
theorem pX1_18 : jq_FP RX1 18 1 2 false .int := ⟨RX1, TX1, 4, tyX1, rfl, by decide, jw_X1, tyX1_ok, nmX1, ⟨rfl, by decide +kernel, Or.inr rfl⟩, Or.inl (jq_in1 167 (by decide +kernel) rfl)⟩
theorem fX1_22 : jq_FL RX1 22 1 3 := ⟨RX1, TX1, 4, rfl, by decide, jw_X1, Or.inl (jq_in1 168 (by decide +kernel) rfl)⟩
theorem pX1_22 : jq_FP RX1 22 1 3 false .boolean := ⟨RX1, TX1, 4, tyX1, rfl, by decide, jw_X1, tyX1_ok, nmX1, ⟨rfl, by decide +kernel, Or.inr rfl⟩, Or.inl (jq_in1 168 (by decide +kernel) rfl)⟩
theorem fX4_76 : jq_FL RX4 76 1 3 := ⟨RX1, TX1, 4, rfl, by decide, jw_X1, Or.inr ⟨"SlitherFence", jq_inN 169 (by decide +kernel) rfl⟩⟩
theorem pX4_76 : jq_FP RX4 76 1 3 false .boolean := ⟨RX1, TX1, 4, tyX1, rfl, by decide, jw_X1, tyX1_ok, nmX1, ⟨rfl, by decide +kernel, Or.inr rfl⟩, Or.inr ⟨rfl, "SlitherFence", jq_inN 169 (by decide +kernel) rfl⟩⟩
theorem fX4_22 : jq_FL RX4 22 4 0 := ⟨RX4, TX4, 7, rfl, by decide, jw_X4, Or.inl (jq_in1 179 (by decide +kernel) rfl)⟩
theorem pX4_22 : jq_FP RX4 22 4 0 true (.object "SlitherFence$Board") := ⟨RX4, TX4, 7, tyX4, rfl, by decide, jw_X4, tyX4_ok, nmX4, ⟨rfl, by decide +kernel, Or.inl rfl⟩, Or.inl (jq_in1 179 (by decide +kernel) rfl)⟩
theorem fX4_12 : jq_FL RX4 12 4 1 := ⟨RX4, TX4, 7, rfl, by decide, jw_X4, Or.inl (jq_in1 180 (by decide +kernel) rfl)⟩
theorem pX4_12 : jq_FP RX4 12 4 1 true (.object "SlitherFence$Colours") := ⟨RX4, TX4, 7, tyX4, rfl, by decide, jw_X4, tyX4_ok, nmX4, ⟨rfl, by decide +kernel, Or.inl rfl⟩, Or.inl (jq_in1 180 (by decide +kernel) rfl)⟩
theorem fX4_18 : jq_FL RX4 18 4 2 := ⟨RX4, TX4, 7, rfl, by decide, jw_X4, Or.inl (jq_in1 181 (by decide +kernel) rfl)⟩
theorem pX4_18 : jq_FP RX4 18 4 2 true (.array .long) := ⟨RX4, TX4, 7, tyX4, rfl, by decide, jw_X4, tyX4_ok, nmX4, ⟨rfl, by decide +kernel, Or.inl rfl⟩, Or.inl (jq_in1 181 (by decide +kernel) rfl)⟩
theorem fX4_26 : jq_FL RX4 26 4 3 := ⟨RX4, TX4, 7, rfl, by decide, jw_X4, Or.inl (jq_in1 182 (by decide +kernel) rfl)⟩
theorem pX4_26 : jq_FP RX4 26 4 3 false .long := ⟨RX4, TX4, 7, tyX4, rfl, by decide, jw_X4, tyX4_ok, nmX4, ⟨rfl, by decide +kernel, Or.inr rfl⟩, Or.inl (jq_in1 182 (by decide +kernel) rfl)⟩
theorem fX4_37 : jq_FL RX4 37 4 4 := ⟨RX4, TX4, 7, rfl, by decide, jw_X4, Or.inl (jq_in1 183 (by decide +kernel) rfl)⟩
theorem pX4_37 : jq_FP RX4 37 4 4 false .long := ⟨RX4, TX4, 7, tyX4, rfl, by decide, jw_X4, tyX4_ok, nmX4, ⟨rfl, by decide +kernel, Or.inr rfl⟩, Or.inl (jq_in1 183 (by decide +kernel) rfl)⟩
theorem fX2_72 : jq_FL RX2 72 4 5 := ⟨RX4, TX4, 7, rfl, by decide, jw_X4, Or.inr ⟨"SlitherFence", jq_inN 184 (by decide +kernel) rfl⟩⟩
theorem pX2_72 : jq_FP RX2 72 4 5 false .long := ⟨RX4, TX4, 7, tyX4, rfl, by decide, jw_X4, tyX4_ok, nmX4, ⟨rfl, by decide +kernel, Or.inr rfl⟩, Or.inr ⟨rfl, "SlitherFence", jq_inN 184 (by decide +kernel) rfl⟩⟩
theorem fX4_118 : jq_FL RX4 118 4 5 := ⟨RX4, TX4, 7, rfl, by decide, jw_X4, Or.inl (jq_in1 185 (by decide +kernel) rfl)⟩
theorem pX4_118 : jq_FP RX4 118 4 5 false .long := ⟨RX4, TX4, 7, tyX4, rfl, by decide, jw_X4, tyX4_ok, nmX4, ⟨rfl, by decide +kernel, Or.inr rfl⟩, Or.inl (jq_in1 185 (by decide +kernel) rfl)⟩
theorem fX5_148 : jq_FL RX5 148 4 5 := ⟨RX4, TX4, 7, rfl, by decide, jw_X4, Or.inr ⟨"SlitherFence", jq_inN 186 (by decide +kernel) rfl⟩⟩
theorem pX5_148 : jq_FP RX5 148 4 5 false .long := ⟨RX4, TX4, 7, tyX4, rfl, by decide, jw_X4, tyX4_ok, nmX4, ⟨rfl, by decide +kernel, Or.inr rfl⟩, Or.inr ⟨rfl, "SlitherFence", jq_inN 186 (by decide +kernel) rfl⟩⟩
theorem fX2_75 : jq_FL RX2 75 4 6 := ⟨RX4, TX4, 7, rfl, by decide, jw_X4, Or.inr ⟨"SlitherFence", jq_inN 187 (by decide +kernel) rfl⟩⟩
theorem pX2_75 : jq_FP RX2 75 4 6 false .long := ⟨RX4, TX4, 7, tyX4, rfl, by decide, jw_X4, tyX4_ok, nmX4, ⟨rfl, by decide +kernel, Or.inr rfl⟩, Or.inr ⟨rfl, "SlitherFence", jq_inN 187 (by decide +kernel) rfl⟩⟩
theorem fX4_121 : jq_FL RX4 121 4 6 := ⟨RX4, TX4, 7, rfl, by decide, jw_X4, Or.inl (jq_in1 188 (by decide +kernel) rfl)⟩
theorem pX4_121 : jq_FP RX4 121 4 6 false .long := ⟨RX4, TX4, 7, tyX4, rfl, by decide, jw_X4, tyX4_ok, nmX4, ⟨rfl, by decide +kernel, Or.inr rfl⟩, Or.inl (jq_in1 188 (by decide +kernel) rfl)⟩
theorem fX5_151 : jq_FL RX5 151 4 6 := ⟨RX4, TX4, 7, rfl, by decide, jw_X4, Or.inr ⟨"SlitherFence", jq_inN 189 (by decide +kernel) rfl⟩⟩
theorem pX5_151 : jq_FP RX5 151 4 6 false .long := ⟨RX4, TX4, 7, tyX4, rfl, by decide, jw_X4, tyX4_ok, nmX4, ⟨rfl, by decide +kernel, Or.inr rfl⟩, Or.inr ⟨rfl, "SlitherFence", jq_inN 189 (by decide +kernel) rfl⟩⟩
theorem fX2_18 : jq_FL RX2 18 2 0 := ⟨RX2, TX2, 8, rfl, by decide, jw_X2, Or.inl (jq_in1 211 (by decide +kernel) rfl)⟩
theorem pX2_18 : jq_FP RX2 18 2 0 true (.object "SlitherFence$Board") := ⟨RX2, TX2, 8, tyX2, rfl, by decide, jw_X2, tyX2_ok, nmX2, ⟨rfl, by decide +kernel, Or.inl rfl⟩, Or.inl (jq_in1 211 (by decide +kernel) rfl)⟩
theorem fX2_22 : jq_FL RX2 22 2 1 := ⟨RX2, TX2, 8, rfl, by decide, jw_X2, Or.inl (jq_in1 212 (by decide +kernel) rfl)⟩
theorem pX2_22 : jq_FP RX2 22 2 1 true (.object "SlitherFence$State") := ⟨RX2, TX2, 8, tyX2, rfl, by decide, jw_X2, tyX2_ok, nmX2, ⟨rfl, by decide +kernel, Or.inl rfl⟩, Or.inl (jq_in1 212 (by decide +kernel) rfl)⟩
theorem fX2_9 : jq_FL RX2 9 2 2 := ⟨RX2, TX2, 8, rfl, by decide, jw_X2, Or.inl (jq_in1 213 (by decide +kernel) rfl)⟩
theorem pX2_9 : jq_FP RX2 9 2 2 true (.array .int) := ⟨RX2, TX2, 8, tyX2, rfl, by decide, jw_X2, tyX2_ok, nmX2, ⟨rfl, by decide +kernel, Or.inl rfl⟩, Or.inl (jq_in1 213 (by decide +kernel) rfl)⟩
theorem fX5_136 : jq_FL RX5 136 2 2 := ⟨RX2, TX2, 8, rfl, by decide, jw_X2, Or.inr ⟨"SlitherFence", jq_inN 214 (by decide +kernel) rfl⟩⟩
theorem fX2_15 : jq_FL RX2 15 2 3 := ⟨RX2, TX2, 8, rfl, by decide, jw_X2, Or.inl (jq_in1 215 (by decide +kernel) rfl)⟩
theorem pX2_15 : jq_FP RX2 15 2 3 true (.array .int) := ⟨RX2, TX2, 8, tyX2, rfl, by decide, jw_X2, tyX2_ok, nmX2, ⟨rfl, by decide +kernel, Or.inl rfl⟩, Or.inl (jq_in1 215 (by decide +kernel) rfl)⟩
theorem fX5_139 : jq_FL RX5 139 2 3 := ⟨RX2, TX2, 8, rfl, by decide, jw_X2, Or.inr ⟨"SlitherFence", jq_inN 216 (by decide +kernel) rfl⟩⟩
theorem fX2_34 : jq_FL RX2 34 2 4 := ⟨RX2, TX2, 8, rfl, by decide, jw_X2, Or.inl (jq_in1 217 (by decide +kernel) rfl)⟩
theorem pX2_34 : jq_FP RX2 34 2 4 false .long := ⟨RX2, TX2, 8, tyX2, rfl, by decide, jw_X2, tyX2_ok, nmX2, ⟨rfl, by decide +kernel, Or.inr rfl⟩, Or.inl (jq_in1 217 (by decide +kernel) rfl)⟩
theorem fX5_106 : jq_FL RX5 106 2 4 := ⟨RX2, TX2, 8, rfl, by decide, jw_X2, Or.inr ⟨"SlitherFence", jq_inN 218 (by decide +kernel) rfl⟩⟩
theorem pX5_106 : jq_FP RX5 106 2 4 false .long := ⟨RX2, TX2, 8, tyX2, rfl, by decide, jw_X2, tyX2_ok, nmX2, ⟨rfl, by decide +kernel, Or.inr rfl⟩, Or.inr ⟨rfl, "SlitherFence", jq_inN 218 (by decide +kernel) rfl⟩⟩
theorem fX2_38 : jq_FL RX2 38 2 5 := ⟨RX2, TX2, 8, rfl, by decide, jw_X2, Or.inl (jq_in1 219 (by decide +kernel) rfl)⟩
theorem pX2_38 : jq_FP RX2 38 2 5 false .long := ⟨RX2, TX2, 8, tyX2, rfl, by decide, jw_X2, tyX2_ok, nmX2, ⟨rfl, by decide +kernel, Or.inr rfl⟩, Or.inl (jq_in1 219 (by decide +kernel) rfl)⟩
theorem fX5_107 : jq_FL RX5 107 2 5 := ⟨RX2, TX2, 8, rfl, by decide, jw_X2, Or.inr ⟨"SlitherFence", jq_inN 220 (by decide +kernel) rfl⟩⟩
theorem pX5_107 : jq_FP RX5 107 2 5 false .long := ⟨RX2, TX2, 8, tyX2, rfl, by decide, jw_X2, tyX2_ok, nmX2, ⟨rfl, by decide +kernel, Or.inr rfl⟩, Or.inr ⟨rfl, "SlitherFence", jq_inN 220 (by decide +kernel) rfl⟩⟩
theorem fX2_41 : jq_FL RX2 41 2 6 := ⟨RX2, TX2, 8, rfl, by decide, jw_X2, Or.inl (jq_in1 221 (by decide +kernel) rfl)⟩
theorem pX2_41 : jq_FP RX2 41 2 6 false .int := ⟨RX2, TX2, 8, tyX2, rfl, by decide, jw_X2, tyX2_ok, nmX2, ⟨rfl, by decide +kernel, Or.inr rfl⟩, Or.inl (jq_in1 221 (by decide +kernel) rfl)⟩
theorem fX5_142 : jq_FL RX5 142 2 6 := ⟨RX2, TX2, 8, rfl, by decide, jw_X2, Or.inr ⟨"SlitherFence", jq_inN 222 (by decide +kernel) rfl⟩⟩
theorem pX5_142 : jq_FP RX5 142 2 6 false .int := ⟨RX2, TX2, 8, tyX2, rfl, by decide, jw_X2, tyX2_ok, nmX2, ⟨rfl, by decide +kernel, Or.inr rfl⟩, Or.inr ⟨rfl, "SlitherFence", jq_inN 222 (by decide +kernel) rfl⟩⟩
theorem fX2_45 : jq_FL RX2 45 2 7 := ⟨RX2, TX2, 8, rfl, by decide, jw_X2, Or.inl (jq_in1 223 (by decide +kernel) rfl)⟩
theorem pX2_45 : jq_FP RX2 45 2 7 false .int := ⟨RX2, TX2, 8, tyX2, rfl, by decide, jw_X2, tyX2_ok, nmX2, ⟨rfl, by decide +kernel, Or.inr rfl⟩, Or.inl (jq_in1 223 (by decide +kernel) rfl)⟩
theorem fX5_97 : jq_FL RX5 97 2 7 := ⟨RX2, TX2, 8, rfl, by decide, jw_X2, Or.inr ⟨"SlitherFence", jq_inN 224 (by decide +kernel) rfl⟩⟩
theorem pX5_97 : jq_FP RX5 97 2 7 false .int := ⟨RX2, TX2, 8, tyX2, rfl, by decide, jw_X2, tyX2_ok, nmX2, ⟨rfl, by decide +kernel, Or.inr rfl⟩, Or.inr ⟨rfl, "SlitherFence", jq_inN 224 (by decide +kernel) rfl⟩⟩
theorem fX3_15 : jq_FL RX3 15 3 0 := ⟨RX3, TX3, 4, rfl, by decide, jw_X3, Or.inl (jq_in1 248 (by decide +kernel) rfl)⟩
theorem pX3_15 : jq_FP RX3 15 3 0 true (.object "SlitherFence$Board") := ⟨RX3, TX3, 4, tyX3, rfl, by decide, jw_X3, tyX3_ok, nmX3, ⟨rfl, by decide +kernel, Or.inl rfl⟩, Or.inl (jq_in1 248 (by decide +kernel) rfl)⟩
theorem fX3_9 : jq_FL RX3 9 3 1 := ⟨RX3, TX3, 4, rfl, by decide, jw_X3, Or.inl (jq_in1 249 (by decide +kernel) rfl)⟩
theorem pX3_9 : jq_FP RX3 9 3 1 true (.array .long) := ⟨RX3, TX3, 4, tyX3, rfl, by decide, jw_X3, tyX3_ok, nmX3, ⟨rfl, by decide +kernel, Or.inl rfl⟩, Or.inl (jq_in1 249 (by decide +kernel) rfl)⟩
theorem fX3_23 : jq_FL RX3 23 3 2 := ⟨RX3, TX3, 4, rfl, by decide, jw_X3, Or.inl (jq_in1 250 (by decide +kernel) rfl)⟩
theorem pX3_23 : jq_FP RX3 23 3 2 false .int := ⟨RX3, TX3, 4, tyX3, rfl, by decide, jw_X3, tyX3_ok, nmX3, ⟨rfl, by decide +kernel, Or.inr rfl⟩, Or.inl (jq_in1 250 (by decide +kernel) rfl)⟩
theorem fX3_19 : jq_FL RX3 19 3 3 := ⟨RX3, TX3, 4, rfl, by decide, jw_X3, Or.inl (jq_in1 251 (by decide +kernel) rfl)⟩
theorem pX3_19 : jq_FP RX3 19 3 3 false .boolean := ⟨RX3, TX3, 4, tyX3, rfl, by decide, jw_X3, tyX3_ok, nmX3, ⟨rfl, by decide +kernel, Or.inr rfl⟩, Or.inl (jq_in1 251 (by decide +kernel) rfl)⟩
theorem fX5_10 : jq_FL RX5 10 5 0 := ⟨RX5, TX5, 6, rfl, by decide, jw_X5, Or.inl (jq_in1 291 (by decide +kernel) rfl)⟩
theorem pX5_10 : jq_FP RX5 10 5 0 true (.object "SlitherFence$Board") := ⟨RX5, TX5, 6, tyX5, rfl, by decide, jw_X5, tyX5_ok, nmX5, ⟨rfl, by decide +kernel, Or.inl rfl⟩, Or.inl (jq_in1 291 (by decide +kernel) rfl)⟩
theorem fX5_21 : jq_FL RX5 21 5 1 := ⟨RX5, TX5, 6, rfl, by decide, jw_X5, Or.inl (jq_in1 292 (by decide +kernel) rfl)⟩
theorem pX5_21 : jq_FP RX5 21 5 1 true (.object "SlitherFence$State") := ⟨RX5, TX5, 6, tyX5, rfl, by decide, jw_X5, tyX5_ok, nmX5, ⟨rfl, by decide +kernel, Or.inl rfl⟩, Or.inl (jq_in1 292 (by decide +kernel) rfl)⟩
theorem fX5_30 : jq_FL RX5 30 5 2 := ⟨RX5, TX5, 6, rfl, by decide, jw_X5, Or.inl (jq_in1 293 (by decide +kernel) rfl)⟩
theorem pX5_30 : jq_FP RX5 30 5 2 true (.object "SlitherFence$Course") := ⟨RX5, TX5, 6, tyX5, rfl, by decide, jw_X5, tyX5_ok, nmX5, ⟨rfl, by decide +kernel, Or.inl rfl⟩, Or.inl (jq_in1 293 (by decide +kernel) rfl)⟩
theorem fX5_37 : jq_FL RX5 37 5 3 := ⟨RX5, TX5, 6, rfl, by decide, jw_X5, Or.inl (jq_in1 294 (by decide +kernel) rfl)⟩
theorem pX5_37 : jq_FP RX5 37 5 3 true (.object "SlitherFence$Loops") := ⟨RX5, TX5, 6, tyX5, rfl, by decide, jw_X5, tyX5_ok, nmX5, ⟨rfl, by decide +kernel, Or.inl rfl⟩, Or.inl (jq_in1 294 (by decide +kernel) rfl)⟩
theorem fX5_80 : jq_FL RX5 80 5 4 := ⟨RX5, TX5, 6, rfl, by decide, jw_X5, Or.inl (jq_in1 295 (by decide +kernel) rfl)⟩
theorem pX5_80 : jq_FP RX5 80 5 4 false .long := ⟨RX5, TX5, 6, tyX5, rfl, by decide, jw_X5, tyX5_ok, nmX5, ⟨rfl, by decide +kernel, Or.inr rfl⟩, Or.inl (jq_in1 295 (by decide +kernel) rfl)⟩
theorem fX5_84 : jq_FL RX5 84 5 5 := ⟨RX5, TX5, 6, rfl, by decide, jw_X5, Or.inl (jq_in1 296 (by decide +kernel) rfl)⟩
theorem pX5_84 : jq_FP RX5 84 5 5 false .long := ⟨RX5, TX5, 6, tyX5, rfl, by decide, jw_X5, tyX5_ok, nmX5, ⟨rfl, by decide +kernel, Or.inr rfl⟩, Or.inl (jq_in1 296 (by decide +kernel) rfl)⟩
theorem fX6_80 : jq_FL RX6 80 6 0 := ⟨RX6, TX6, 27, rfl, by decide, jw_X6, Or.inl (jq_in1 759 (by decide +kernel) rfl)⟩
theorem pX6_80 : jq_FP RX6 80 6 0 false .int := ⟨RX6, TX6, 27, tyX6, rfl, by decide, jw_X6, tyX6_ok, nmX6, ⟨rfl, by decide +kernel, Or.inr rfl⟩, Or.inl (jq_in1 759 (by decide +kernel) rfl)⟩
theorem fX6_77 : jq_FL RX6 77 6 1 := ⟨RX6, TX6, 27, rfl, by decide, jw_X6, Or.inl (jq_in1 760 (by decide +kernel) rfl)⟩
theorem pX6_77 : jq_FP RX6 77 6 1 false .int := ⟨RX6, TX6, 27, tyX6, rfl, by decide, jw_X6, tyX6_ok, nmX6, ⟨rfl, by decide +kernel, Or.inr rfl⟩, Or.inl (jq_in1 760 (by decide +kernel) rfl)⟩
theorem fX6_71 : jq_FL RX6 71 6 2 := ⟨RX6, TX6, 27, rfl, by decide, jw_X6, Or.inl (jq_in1 761 (by decide +kernel) rfl)⟩
theorem pX6_71 : jq_FP RX6 71 6 2 false .int := ⟨RX6, TX6, 27, tyX6, rfl, by decide, jw_X6, tyX6_ok, nmX6, ⟨rfl, by decide +kernel, Or.inr rfl⟩, Or.inl (jq_in1 761 (by decide +kernel) rfl)⟩
theorem fX6_74 : jq_FL RX6 74 6 3 := ⟨RX6, TX6, 27, rfl, by decide, jw_X6, Or.inl (jq_in1 762 (by decide +kernel) rfl)⟩
theorem pX6_74 : jq_FP RX6 74 6 3 false .int := ⟨RX6, TX6, 27, tyX6, rfl, by decide, jw_X6, tyX6_ok, nmX6, ⟨rfl, by decide +kernel, Or.inr rfl⟩, Or.inl (jq_in1 762 (by decide +kernel) rfl)⟩
theorem fX6_83 : jq_FL RX6 83 6 4 := ⟨RX6, TX6, 27, rfl, by decide, jw_X6, Or.inl (jq_in1 763 (by decide +kernel) rfl)⟩
theorem pX6_83 : jq_FP RX6 83 6 4 false .int := ⟨RX6, TX6, 27, tyX6, rfl, by decide, jw_X6, tyX6_ok, nmX6, ⟨rfl, by decide +kernel, Or.inr rfl⟩, Or.inl (jq_in1 763 (by decide +kernel) rfl)⟩
theorem fX6_7 : jq_FL RX6 7 6 5 := ⟨RX6, TX6, 27, rfl, by decide, jw_X6, Or.inl (jq_in1 764 (by decide +kernel) rfl)⟩
theorem pX6_7 : jq_FP RX6 7 6 5 true (.array .int) := ⟨RX6, TX6, 27, tyX6, rfl, by decide, jw_X6, tyX6_ok, nmX6, ⟨rfl, by decide +kernel, Or.inl rfl⟩, Or.inl (jq_in1 764 (by decide +kernel) rfl)⟩
theorem fX6_13 : jq_FL RX6 13 6 6 := ⟨RX6, TX6, 27, rfl, by decide, jw_X6, Or.inl (jq_in1 765 (by decide +kernel) rfl)⟩
theorem pX6_13 : jq_FP RX6 13 6 6 true (.array .int) := ⟨RX6, TX6, 27, tyX6, rfl, by decide, jw_X6, tyX6_ok, nmX6, ⟨rfl, by decide +kernel, Or.inl rfl⟩, Or.inl (jq_in1 765 (by decide +kernel) rfl)⟩
theorem fX6_16 : jq_FL RX6 16 6 7 := ⟨RX6, TX6, 27, rfl, by decide, jw_X6, Or.inl (jq_in1 766 (by decide +kernel) rfl)⟩
theorem pX6_16 : jq_FP RX6 16 6 7 true (.array .int) := ⟨RX6, TX6, 27, tyX6, rfl, by decide, jw_X6, tyX6_ok, nmX6, ⟨rfl, by decide +kernel, Or.inl rfl⟩, Or.inl (jq_in1 766 (by decide +kernel) rfl)⟩
theorem fX6_19 : jq_FL RX6 19 6 8 := ⟨RX6, TX6, 27, rfl, by decide, jw_X6, Or.inl (jq_in1 767 (by decide +kernel) rfl)⟩
theorem pX6_19 : jq_FP RX6 19 6 8 true (.array .int) := ⟨RX6, TX6, 27, tyX6, rfl, by decide, jw_X6, tyX6_ok, nmX6, ⟨rfl, by decide +kernel, Or.inl rfl⟩, Or.inl (jq_in1 767 (by decide +kernel) rfl)⟩
theorem fX6_22 : jq_FL RX6 22 6 9 := ⟨RX6, TX6, 27, rfl, by decide, jw_X6, Or.inl (jq_in1 768 (by decide +kernel) rfl)⟩
theorem pX6_22 : jq_FP RX6 22 6 9 true (.array .int) := ⟨RX6, TX6, 27, tyX6, rfl, by decide, jw_X6, tyX6_ok, nmX6, ⟨rfl, by decide +kernel, Or.inl rfl⟩, Or.inl (jq_in1 768 (by decide +kernel) rfl)⟩
theorem fX6_25 : jq_FL RX6 25 6 10 := ⟨RX6, TX6, 27, rfl, by decide, jw_X6, Or.inl (jq_in1 769 (by decide +kernel) rfl)⟩
theorem pX6_25 : jq_FP RX6 25 6 10 true (.array .int) := ⟨RX6, TX6, 27, tyX6, rfl, by decide, jw_X6, tyX6_ok, nmX6, ⟨rfl, by decide +kernel, Or.inl rfl⟩, Or.inl (jq_in1 769 (by decide +kernel) rfl)⟩
theorem fX6_28 : jq_FL RX6 28 6 11 := ⟨RX6, TX6, 27, rfl, by decide, jw_X6, Or.inl (jq_in1 770 (by decide +kernel) rfl)⟩
theorem pX6_28 : jq_FP RX6 28 6 11 true (.array .int) := ⟨RX6, TX6, 27, tyX6, rfl, by decide, jw_X6, tyX6_ok, nmX6, ⟨rfl, by decide +kernel, Or.inl rfl⟩, Or.inl (jq_in1 770 (by decide +kernel) rfl)⟩
theorem fX6_31 : jq_FL RX6 31 6 12 := ⟨RX6, TX6, 27, rfl, by decide, jw_X6, Or.inl (jq_in1 771 (by decide +kernel) rfl)⟩
theorem pX6_31 : jq_FP RX6 31 6 12 true (.array .int) := ⟨RX6, TX6, 27, tyX6, rfl, by decide, jw_X6, tyX6_ok, nmX6, ⟨rfl, by decide +kernel, Or.inl rfl⟩, Or.inl (jq_in1 771 (by decide +kernel) rfl)⟩
theorem fX6_34 : jq_FL RX6 34 6 13 := ⟨RX6, TX6, 27, rfl, by decide, jw_X6, Or.inl (jq_in1 772 (by decide +kernel) rfl)⟩
theorem pX6_34 : jq_FP RX6 34 6 13 true (.array .int) := ⟨RX6, TX6, 27, tyX6, rfl, by decide, jw_X6, tyX6_ok, nmX6, ⟨rfl, by decide +kernel, Or.inl rfl⟩, Or.inl (jq_in1 772 (by decide +kernel) rfl)⟩
theorem fX6_37 : jq_FL RX6 37 6 14 := ⟨RX6, TX6, 27, rfl, by decide, jw_X6, Or.inl (jq_in1 773 (by decide +kernel) rfl)⟩
theorem pX6_37 : jq_FP RX6 37 6 14 true (.array .int) := ⟨RX6, TX6, 27, tyX6, rfl, by decide, jw_X6, tyX6_ok, nmX6, ⟨rfl, by decide +kernel, Or.inl rfl⟩, Or.inl (jq_in1 773 (by decide +kernel) rfl)⟩
theorem fX6_40 : jq_FL RX6 40 6 15 := ⟨RX6, TX6, 27, rfl, by decide, jw_X6, Or.inl (jq_in1 774 (by decide +kernel) rfl)⟩
theorem pX6_40 : jq_FP RX6 40 6 15 true (.array .int) := ⟨RX6, TX6, 27, tyX6, rfl, by decide, jw_X6, tyX6_ok, nmX6, ⟨rfl, by decide +kernel, Or.inl rfl⟩, Or.inl (jq_in1 774 (by decide +kernel) rfl)⟩
theorem fX6_43 : jq_FL RX6 43 6 16 := ⟨RX6, TX6, 27, rfl, by decide, jw_X6, Or.inl (jq_in1 775 (by decide +kernel) rfl)⟩
theorem pX6_43 : jq_FP RX6 43 6 16 true (.array .int) := ⟨RX6, TX6, 27, tyX6, rfl, by decide, jw_X6, tyX6_ok, nmX6, ⟨rfl, by decide +kernel, Or.inl rfl⟩, Or.inl (jq_in1 775 (by decide +kernel) rfl)⟩
theorem fX6_153 : jq_FL RX6 153 6 17 := ⟨RX6, TX6, 27, rfl, by decide, jw_X6, Or.inl (jq_in1 776 (by decide +kernel) rfl)⟩
theorem pX6_153 : jq_FP RX6 153 6 17 false .int := ⟨RX6, TX6, 27, tyX6, rfl, by decide, jw_X6, tyX6_ok, nmX6, ⟨rfl, by decide +kernel, Or.inr rfl⟩, Or.inl (jq_in1 776 (by decide +kernel) rfl)⟩
theorem fX6_108 : jq_FL RX6 108 6 18 := ⟨RX6, TX6, 27, rfl, by decide, jw_X6, Or.inl (jq_in1 777 (by decide +kernel) rfl)⟩
theorem pX6_108 : jq_FP RX6 108 6 18 false .int := ⟨RX6, TX6, 27, tyX6, rfl, by decide, jw_X6, tyX6_ok, nmX6, ⟨rfl, by decide +kernel, Or.inr rfl⟩, Or.inl (jq_in1 777 (by decide +kernel) rfl)⟩
theorem fX6_46 : jq_FL RX6 46 6 19 := ⟨RX6, TX6, 27, rfl, by decide, jw_X6, Or.inl (jq_in1 778 (by decide +kernel) rfl)⟩
theorem pX6_46 : jq_FP RX6 46 6 19 true (.array .int) := ⟨RX6, TX6, 27, tyX6, rfl, by decide, jw_X6, tyX6_ok, nmX6, ⟨rfl, by decide +kernel, Or.inl rfl⟩, Or.inl (jq_in1 778 (by decide +kernel) rfl)⟩
theorem fX6_49 : jq_FL RX6 49 6 20 := ⟨RX6, TX6, 27, rfl, by decide, jw_X6, Or.inl (jq_in1 779 (by decide +kernel) rfl)⟩
theorem pX6_49 : jq_FP RX6 49 6 20 true (.array .int) := ⟨RX6, TX6, 27, tyX6, rfl, by decide, jw_X6, tyX6_ok, nmX6, ⟨rfl, by decide +kernel, Or.inl rfl⟩, Or.inl (jq_in1 779 (by decide +kernel) rfl)⟩
theorem fX6_52 : jq_FL RX6 52 6 21 := ⟨RX6, TX6, 27, rfl, by decide, jw_X6, Or.inl (jq_in1 780 (by decide +kernel) rfl)⟩
theorem pX6_52 : jq_FP RX6 52 6 21 true (.array .boolean) := ⟨RX6, TX6, 27, tyX6, rfl, by decide, jw_X6, tyX6_ok, nmX6, ⟨rfl, by decide +kernel, Or.inl rfl⟩, Or.inl (jq_in1 780 (by decide +kernel) rfl)⟩
theorem fX6_56 : jq_FL RX6 56 6 22 := ⟨RX6, TX6, 27, rfl, by decide, jw_X6, Or.inl (jq_in1 781 (by decide +kernel) rfl)⟩
theorem pX6_56 : jq_FP RX6 56 6 22 true (.array .int) := ⟨RX6, TX6, 27, tyX6, rfl, by decide, jw_X6, tyX6_ok, nmX6, ⟨rfl, by decide +kernel, Or.inl rfl⟩, Or.inl (jq_in1 781 (by decide +kernel) rfl)⟩
theorem fX6_59 : jq_FL RX6 59 6 23 := ⟨RX6, TX6, 27, rfl, by decide, jw_X6, Or.inl (jq_in1 782 (by decide +kernel) rfl)⟩
theorem pX6_59 : jq_FP RX6 59 6 23 true (.array .long) := ⟨RX6, TX6, 27, tyX6, rfl, by decide, jw_X6, tyX6_ok, nmX6, ⟨rfl, by decide +kernel, Or.inl rfl⟩, Or.inl (jq_in1 782 (by decide +kernel) rfl)⟩
theorem fX6_173 : jq_FL RX6 173 6 24 := ⟨RX6, TX6, 27, rfl, by decide, jw_X6, Or.inl (jq_in1 783 (by decide +kernel) rfl)⟩
theorem pX6_173 : jq_FP RX6 173 6 24 false .int := ⟨RX6, TX6, 27, tyX6, rfl, by decide, jw_X6, tyX6_ok, nmX6, ⟨rfl, by decide +kernel, Or.inr rfl⟩, Or.inl (jq_in1 783 (by decide +kernel) rfl)⟩
theorem fX6_170 : jq_FL RX6 170 6 25 := ⟨RX6, TX6, 27, rfl, by decide, jw_X6, Or.inl (jq_in1 784 (by decide +kernel) rfl)⟩
theorem pX6_170 : jq_FP RX6 170 6 25 false .int := ⟨RX6, TX6, 27, tyX6, rfl, by decide, jw_X6, tyX6_ok, nmX6, ⟨rfl, by decide +kernel, Or.inr rfl⟩, Or.inl (jq_in1 784 (by decide +kernel) rfl)⟩
theorem fX6_67 : jq_FL RX6 67 6 26 := ⟨RX6, TX6, 27, rfl, by decide, jw_X6, Or.inl (jq_in1 785 (by decide +kernel) rfl)⟩
theorem pX6_67 : jq_FP RX6 67 6 26 false .int := ⟨RX6, TX6, 27, tyX6, rfl, by decide, jw_X6, tyX6_ok, nmX6, ⟨rfl, by decide +kernel, Or.inr rfl⟩, Or.inl (jq_in1 785 (by decide +kernel) rfl)⟩
theorem uL_8 : Cond.classLink RL 8 RX5 ∈ jq_big := jq_in1 69 (by decide +kernel) rfl
theorem jx_X5 : Cond.instantiable RX5 6 ∈ jq_big := jq_in1 70 (by decide +kernel) rfl
theorem uX5_7 : Cond.classLink RX5 7 RX0 ∈ jq_big := jq_in1 77 (by decide +kernel) rfl
theorem jx_X0 : Cond.instantiable RX0 16 ∈ jq_big := jq_in1 78 (by decide +kernel) rfl
theorem ja_int : Cond.arrayClass .int ∈ jq_big := jq_in1 151 (by decide +kernel) rfl
theorem ja_long : Cond.arrayClass .long ∈ jq_big := jq_in1 152 (by decide +kernel) rfl
theorem uX5_16 : Cond.classLink RX5 16 RX4 ∈ jq_big := jq_in1 153 (by decide +kernel) rfl
theorem jx_X4 : Cond.instantiable RX4 7 ∈ jq_big := jq_in1 154 (by decide +kernel) rfl
theorem uX4_9 : Cond.classLink RX4 9 RX1 ∈ jq_big := jq_in1 159 (by decide +kernel) rfl
theorem jx_X1 : Cond.instantiable RX1 4 ∈ jq_big := jq_in1 160 (by decide +kernel) rfl
theorem uX5_25 : Cond.classLink RX5 25 RX2 ∈ jq_big := jq_in1 205 (by decide +kernel) rfl
theorem jx_X2 : Cond.instantiable RX2 8 ∈ jq_big := jq_in1 206 (by decide +kernel) rfl
theorem uX5_34 : Cond.classLink RX5 34 RX3 ∈ jq_big := jq_in1 242 (by decide +kernel) rfl
theorem jx_X3 : Cond.instantiable RX3 4 ∈ jq_big := jq_in1 243 (by decide +kernel) rfl
theorem vX4_35 : Cond.constantLong RX4 35 (-1) ∈ jq_big := jq_in1 349 (by decide +kernel) rfl
theorem vJ13_314 : Cond.constantLong RJ13 314 (6148914691236517205) ∈ jq_big := jq_in1 378 (by decide +kernel) rfl
theorem vJ13_316 : Cond.constantLong RJ13 316 (3689348814741910323) ∈ jq_big := jq_in1 379 (by decide +kernel) rfl
theorem vJ13_318 : Cond.constantLong RJ13 318 (1085102592571150095) ∈ jq_big := jq_in1 380 (by decide +kernel) rfl
theorem vX5_91 : Cond.constantLong RX5 91 (-1) ∈ jq_big := jq_in1 461 (by decide +kernel) rfl
theorem ja_byte : Cond.arrayClass .byte ∈ jq_big := jq_in1 589 (by decide +kernel) rfl
theorem uL_59 : Cond.classLink RL 59 RX6 ∈ jq_big := jq_in1 745 (by decide +kernel) rfl
theorem jx_X6 : Cond.instantiable RX6 27 ∈ jq_big := jq_in1 746 (by decide +kernel) rfl
theorem ja_boolean : Cond.arrayClass .boolean ∈ jq_big := jq_in1 841 (by decide +kernel) rfl
end
section
/-! THE WORLD as one record X: ints of objects, longs of objects, rows of ints (and booleans), rows of longs, all by place; kinds, lengths and fields of the places are fixed -/
abbrev xs_T : Type := (Nat → Nat → Int32) × (Nat → Nat → Int64) × (Nat → Nat → Int32) × (Nat → Nat → Int64)
def xs_k (q : Nat) : Nat := ([0, 0, 1, 2, 2, 1, 1, 1, 1, 1, 2, 0, 0, 1, 1, 2, 0, 1, 1, 0, 2, 0, 1, 1, 1, 1, 1, 1, 1, 1, 1, 1, 1, 1, 1, 1, 3, 1, 2, 2] : List Nat).getD q 9
def xs_n (q : Nat) : Nat := ([0, 0, 16, 17, 25, 40, 40, 40, 40, 16, 16, 0, 0, 17, 17, 8, 0, 40, 40, 0, 9349, 0, 40, 40, 40, 40, 64, 16, 40, 40, 40, 40, 40, 40, 25, 17, 17, 25, 9400, 1] : List Nat).getD q 0
def xs_c (q : Nat) : Nat := ([5, 0, 0, 0, 0, 0, 0, 0, 0, 0, 0, 4, 1, 0, 0, 0, 2, 0, 0, 3, 0, 6, 0, 0, 0, 0, 0, 0, 0, 0, 0, 0, 0, 0, 0, 0, 0, 0, 0, 0] : List Nat).getD q 0
def xs_nf (q : Nat) : Nat := ([6, 16, 0, 0, 0, 0, 0, 0, 0, 0, 0, 7, 4, 0, 0, 0, 8, 0, 0, 4, 0, 27, 0, 0, 0, 0, 0, 0, 0, 0, 0, 0, 0, 0, 0, 0, 0, 0, 0, 0] : List Nat).getD q 0
def xs_f (q k : Nat) : Nat := (([[3, 13, 18, 21, 1, 1], [4, 5, 6, 7, 8, 9, 10, 11, 12, 0, 0, 0, 0, 0, 0, 1], [], [], [], [], [], [], [], [], [], [3, 14, 17, 1, 1, 1, 1], [15, 16, 0, 0], [], [], [], [3, 13, 19, 20, 1, 1, 0, 0], [], [], [3, 22, 0, 0], [], [0, 0, 0, 0, 0, 24, 25, 26, 27, 28, 29, 30, 31, 32, 33, 34, 35, 0, 0, 36, 37, 38, 39, 40, 0, 0, 0], [], [], [], [], [], [], [], [], [], [], [], [], [], [], [], [], [], []] : List (List Nat)).getD q []).getD k 0
def xs_fv (ad : Nat → Nat) (X : xs_T) (q k : Nat) : Value := match xs_f q k with
  | 0 => .int (X.1 q k)
  | 1 => .long (X.2.1 q k)
  | t + 2 => .ref (ad t)
def xs_fs (ad : Nat → Nat) (X : xs_T) (q : Nat) : List Value := (List.range (xs_nf q)).map (xs_fv ad X q)
def xs_mem (G : jq_G) (ad : Nat → Nat) (X : xs_T) (q : Nat) : va_E :=
  if xs_k q = 1 then .inl (G.2.1, xs_n q, .inl (X.2.2.1 q)) else if xs_k q = 2 then .inl (G.2.2.1, xs_n q, .inr (.inl (X.2.2.2 q))) else if xs_k q = 3 then .inl (G.2.2.2, xs_n q, .inl (X.2.2.1 q)) else .inr (xs_c q, xs_fs ad X q)
def xs_si (X : xs_T) (q k : Nat) (v : Int32) : xs_T := (va_up X.1 q (va_up (X.1 q) k v), X.2)
def xs_sl (X : xs_T) (q k : Nat) (v : Int64) : xs_T := (X.1, va_up X.2.1 q (va_up (X.2.1 q) k v), X.2.2)
def xs_ai (X : xs_T) (q : Nat) (f : Nat → Int32) : xs_T := (X.1, X.2.1, va_up X.2.2.1 q f, X.2.2.2)
def xs_al (X : xs_T) (q : Nat) (f : Nat → Int64) : xs_T := (X.1, X.2.1, X.2.2.1, va_up X.2.2.2 q f)
theorem xs_m1 {G : jq_G} {ad : Nat → Nat} {X : xs_T} {q : Nat} (h : xs_k q = 1) : xs_mem G ad X q = .inl (G.2.1, xs_n q, .inl (X.2.2.1 q)) := by simp [xs_mem, h]
theorem xs_m2 {G : jq_G} {ad : Nat → Nat} {X : xs_T} {q : Nat} (h : xs_k q = 2) : xs_mem G ad X q = .inl (G.2.2.1, xs_n q, .inr (.inl (X.2.2.2 q))) := by simp [xs_mem, h]
theorem xs_m3 {G : jq_G} {ad : Nat → Nat} {X : xs_T} {q : Nat} (h : xs_k q = 3) : xs_mem G ad X q = .inl (G.2.2.2, xs_n q, .inl (X.2.2.1 q)) := by simp [xs_mem, h]
theorem xs_m0 {G : jq_G} {ad : Nat → Nat} {X : xs_T} {q : Nat} (h : xs_k q = 0) : xs_mem G ad X q = .inr (xs_c q, xs_fs ad X q) := by simp [xs_mem, h]
theorem xs_fs_at {ad : Nat → Nat} {X : xs_T} {q k : Nat} (h : k < xs_nf q) : (xs_fs ad X q)[k]? = some (xs_fv ad X q k) := by
  simp [xs_fs, List.getElem?_map, List.getElem?_range h]
theorem xs_fs_set {ad : Nat → Nat} {X X' : xs_T} {q k : Nat} {v : Value} (h : k < xs_nf q) (h1 : xs_fv ad X' q k = v) (h2 : ∀ j, j ≠ k → xs_fv ad X' q j = xs_fv ad X q j) : (xs_fs ad X q).set k v = xs_fs ad X' q := by
  apply List.ext_getElem?
  intro i
  rcases Nat.lt_or_ge i (xs_nf q) with hi | hi
  · by_cases hk : i = k
    · subst hk
      rw [List.getElem?_set_self (by simp [xs_fs]; exact h), xs_fs_at h, h1]
    · rw [List.getElem?_set_ne (Ne.symm hk), xs_fs_at hi, xs_fs_at hi, h2 i hk]
  · rw [List.getElem?_eq_none (by rw [List.length_set]; simpa [xs_fs] using hi), List.getElem?_eq_none (by simpa [xs_fs] using hi)]
theorem xs_fv_congr {ad : Nat → Nat} {X X' : xs_T} {q k : Nat} (h1 : X.1 q k = X'.1 q k) (h2 : X.2.1 q k = X'.2.1 q k) : xs_fv ad X q k = xs_fv ad X' q k := by
  unfold xs_fv
  cases xs_f q k with
  | zero => dsimp only; rw [h1]
  | succ t => cases t with
    | zero => dsimp only; rw [h2]
    | succ t => rfl
theorem xs_fs_congr {ad : Nat → Nat} {X X' : xs_T} {q : Nat} (h1 : X.1 q = X'.1 q) (h2 : X.2.1 q = X'.2.1 q) : xs_fs ad X q = xs_fs ad X' q := by
  unfold xs_fs
  apply List.map_congr_left
  intro k _
  exact xs_fv_congr (by rw [h1]) (by rw [h2])
theorem xs_mem_congr {G : jq_G} {ad : Nat → Nat} {X X' : xs_T} {q : Nat} (h1 : X.1 q = X'.1 q) (h2 : X.2.1 q = X'.2.1 q) (h3 : X.2.2.1 q = X'.2.2.1 q) (h4 : X.2.2.2 q = X'.2.2.2 q) : xs_mem G ad X q = xs_mem G ad X' q := by
  unfold xs_mem
  rw [h3, h4, xs_fs_congr h1 h2]
theorem xs_up {G : jq_G} {ad : Nat → Nat} {X X' : xs_T} {q : Nat} {e : va_E} (he : xs_mem G ad X' q = e) (h : ∀ j, j ≠ q → X.1 j = X'.1 j ∧ X.2.1 j = X'.2.1 j ∧ X.2.2.1 j = X'.2.2.1 j ∧ X.2.2.2 j = X'.2.2.2 j) : va_up (xs_mem G ad X) q e = xs_mem G ad X' := by
  funext j
  by_cases hj : j = q
  · subst hj; rw [va_up_self, he]
  · rw [va_up_ne _ _ hj]
    obtain ⟨h1, h2, h3, h4⟩ := h j hj
    exact xs_mem_congr h1 h2 h3 h4
theorem xs_up_ai {G : jq_G} {ad : Nat → Nat} {X : xs_T} {q : Nat} (h : xs_k q = 1) (f : Nat → Int32) : va_up (xs_mem G ad X) q (.inl (G.2.1, xs_n q, .inl f)) = xs_mem G ad (xs_ai X q f) :=
  xs_up (by rw [xs_m1 h]; simp [xs_ai, va_up]) (fun j hj => ⟨rfl, rfl, by simp [xs_ai, va_up, hj], rfl⟩)
theorem xs_up_az {G : jq_G} {ad : Nat → Nat} {X : xs_T} {q : Nat} (h : xs_k q = 3) (f : Nat → Int32) : va_up (xs_mem G ad X) q (.inl (G.2.2.2, xs_n q, .inl f)) = xs_mem G ad (xs_ai X q f) :=
  xs_up (by rw [xs_m3 h]; simp [xs_ai, va_up]) (fun j hj => ⟨rfl, rfl, by simp [xs_ai, va_up, hj], rfl⟩)
theorem xs_up_al {G : jq_G} {ad : Nat → Nat} {X : xs_T} {q : Nat} (h : xs_k q = 2) (f : Nat → Int64) : va_up (xs_mem G ad X) q (.inl (G.2.2.1, xs_n q, .inr (.inl f))) = xs_mem G ad (xs_al X q f) :=
  xs_up (by rw [xs_m2 h]; simp [xs_al, va_up]) (fun j hj => ⟨rfl, rfl, rfl, by simp [xs_al, va_up, hj]⟩)
theorem xs_up_si {G : jq_G} {ad : Nat → Nat} {X : xs_T} {q k : Nat} (h : xs_k q = 0) (hk : k < xs_nf q) (hf : xs_f q k = 0) (v : Int32) : va_up (xs_mem G ad X) q (.inr (xs_c q, (xs_fs ad X q).set k (.int v))) = xs_mem G ad (xs_si X q k v) := by
  refine xs_up ?_ (fun j hj => ⟨by simp [xs_si, va_up, hj], rfl, rfl, rfl⟩)
  rw [xs_m0 h, xs_fs_set (X := X) hk (X' := xs_si X q k v) (by simp [xs_fv, hf, xs_si, va_up]) (fun j hj => xs_fv_congr (by simp [xs_si, va_up, hj]) rfl)]
theorem xs_up_sl {G : jq_G} {ad : Nat → Nat} {X : xs_T} {q k : Nat} (h : xs_k q = 0) (hk : k < xs_nf q) (hf : xs_f q k = 1) (v : Int64) : va_up (xs_mem G ad X) q (.inr (xs_c q, (xs_fs ad X q).set k (.long v))) = xs_mem G ad (xs_sl X q k v) := by
  refine xs_up ?_ (fun j hj => ⟨rfl, by simp [xs_sl, va_up, hj], rfl, rfl⟩)
  rw [xs_m0 h, xs_fs_set (X := X) hk (X' := xs_sl X q k v) (by simp [xs_fv, hf, xs_sl, va_up]) (fun j hj => xs_fv_congr rfl (by simp [xs_sl, va_up, hj]))]
section JX
variable {l : Launch} {G : jq_G} {M : jq_M} {R : Room} {Ex : jq_E} {Y : jq_Y} {pc : Nat} {L : jq_L} {st : List Value} {n : Nat} {ad : Nat → Nat} {X : xs_T} {cells slots : Nat}
theorem xq_iaload {q : Nat} {i v : Int32} (hd : decode M.2.1 pc = .ok (.iaload, 1)) (hq : q < n) (hk : xs_k q = 1) (hin : vp_in i (xs_n q)) (hv : X.2.2.1 q i.toNatClampNeg = v) (k : jq_J l G M R Ex Y (pc + 1) L (.int v :: st) n ad (xs_mem G ad X) cells slots) : jq_J l G M R Ex Y pc L (.int i :: .ref (ad q) :: st) n ad (xs_mem G ad X) cells slots :=
  jq_iaload hd hq (xs_m1 hk) hin (hv ▸ k)
theorem xq_baload {q : Nat} {i v : Int32} (hd : decode M.2.1 pc = .ok (.baload, 1)) (hq : q < n) (hk : xs_k q = 3) (hin : vp_in i (xs_n q)) (hv : X.2.2.1 q i.toNatClampNeg = v) (k : jq_J l G M R Ex Y (pc + 1) L (.int v :: st) n ad (xs_mem G ad X) cells slots) : jq_J l G M R Ex Y pc L (.int i :: .ref (ad q) :: st) n ad (xs_mem G ad X) cells slots :=
  jq_baload hd hq (xs_m3 hk) hin (hv ▸ k)
theorem xq_laload {q : Nat} {i : Int32} {v : Int64} (hd : decode M.2.1 pc = .ok (.laload, 1)) (hq : q < n) (hk : xs_k q = 2) (hin : vp_in i (xs_n q)) (hv : X.2.2.2 q i.toNatClampNeg = v) (k : jq_J l G M R Ex Y (pc + 1) L (.long v :: st) n ad (xs_mem G ad X) cells slots) : jq_J l G M R Ex Y pc L (.int i :: .ref (ad q) :: st) n ad (xs_mem G ad X) cells slots :=
  jq_laload hd hq (xs_m2 hk) hin (hv ▸ k)
theorem xq_iastore {q : Nat} {i x : Int32} (hd : decode M.2.1 pc = .ok (.iastore, 1)) (hq : q < n) (hk : xs_k q = 1) (hin : vp_in i (xs_n q)) (k : jq_J l G M R Ex Y (pc + 1) L st n ad (xs_mem G ad (xs_ai X q (upd (X.2.2.1 q) i.toNatClampNeg x))) cells slots) : jq_J l G M R Ex Y pc L (.int x :: .int i :: .ref (ad q) :: st) n ad (xs_mem G ad X) cells slots :=
  jq_iastore hd hq (xs_m1 hk) hin (by rw [xs_up_ai hk]; exact k)
theorem xq_bastore {q : Nat} {i x v : Int32} (hd : decode M.2.1 pc = .ok (.bastore, 1)) (hq : q < n) (hk : xs_k q = 3) (hin : vp_in i (xs_n q)) (hv : vp_nar .boolean x = v) (k : jq_J l G M R Ex Y (pc + 1) L st n ad (xs_mem G ad (xs_ai X q (upd (X.2.2.1 q) i.toNatClampNeg v))) cells slots) : jq_J l G M R Ex Y pc L (.int x :: .int i :: .ref (ad q) :: st) n ad (xs_mem G ad X) cells slots :=
  jq_bastore hd hq (xs_m3 hk) hin hv (by rw [xs_up_az hk]; exact k)
theorem xq_lastore {q : Nat} {i : Int32} {x : Int64} (hd : decode M.2.1 pc = .ok (.lastore, 1)) (hq : q < n) (hk : xs_k q = 2) (hin : vp_in i (xs_n q)) (k : jq_J l G M R Ex Y (pc + 1) L st n ad (xs_mem G ad (xs_al X q (vp_updL (X.2.2.2 q) i.toNatClampNeg x))) cells slots) : jq_J l G M R Ex Y pc L (.long x :: .int i :: .ref (ad q) :: st) n ad (xs_mem G ad X) cells slots :=
  jq_lastore hd hq (xs_m2 hk) hin (by rw [xs_up_al hk]; exact k)
theorem xq_alenI {q : Nat} (hd : decode M.2.1 pc = .ok (.arraylength, 1)) (hq : q < n) (hk : xs_k q = 1) (k : jq_J l G M R Ex Y (pc + 1) L (.int (nI (xs_n q)) :: st) n ad (xs_mem G ad X) cells slots) : jq_J l G M R Ex Y pc L (.ref (ad q) :: st) n ad (xs_mem G ad X) cells slots := jq_alenI hd hq (xs_m1 hk) k
theorem xq_alenL {q : Nat} (hd : decode M.2.1 pc = .ok (.arraylength, 1)) (hq : q < n) (hk : xs_k q = 2) (k : jq_J l G M R Ex Y (pc + 1) L (.int (nI (xs_n q)) :: st) n ad (xs_mem G ad X) cells slots) : jq_J l G M R Ex Y pc L (.ref (ad q) :: st) n ad (xs_mem G ad X) cells slots := jq_alenL hd hq (xs_m2 hk) k
theorem xq_getI {idx ci j q : Nat} {v : Int32} (F : jq_FL M.1.cls idx ci j) (hd : decode M.2.1 pc = .ok (.getfield idx, 3)) (hq : q < n) (hs : xs_k q = 0 ∧ xs_c q = ci ∧ j < xs_nf q ∧ xs_f q j = 0) (hv : X.1 q j = v) (k : jq_J l G M R Ex Y (pc + 3) L (.int v :: st) n ad (xs_mem G ad X) cells slots) : jq_J l G M R Ex Y pc L (.ref (ad q) :: st) n ad (xs_mem G ad X) cells slots :=
  jq_getfield F hd hq (by rw [xs_m0 hs.1, hs.2.1]) ((xs_fs_at hs.2.2.1).trans (by unfold xs_fv; rw [hs.2.2.2]; rw [← hv])) k
theorem xq_getL {idx ci j q : Nat} {v : Int64} (F : jq_FL M.1.cls idx ci j) (hd : decode M.2.1 pc = .ok (.getfield idx, 3)) (hq : q < n) (hs : xs_k q = 0 ∧ xs_c q = ci ∧ j < xs_nf q ∧ xs_f q j = 1) (hv : X.2.1 q j = v) (k : jq_J l G M R Ex Y (pc + 3) L (.long v :: st) n ad (xs_mem G ad X) cells slots) : jq_J l G M R Ex Y pc L (.ref (ad q) :: st) n ad (xs_mem G ad X) cells slots :=
  jq_getfield F hd hq (by rw [xs_m0 hs.1, hs.2.1]) ((xs_fs_at hs.2.2.1).trans (by unfold xs_fv; rw [hs.2.2.2]; rw [← hv])) k
theorem xq_getR {idx ci j q : Nat} (t : Nat) (F : jq_FL M.1.cls idx ci j) (hd : decode M.2.1 pc = .ok (.getfield idx, 3)) (hq : q < n) (hs : xs_k q = 0 ∧ xs_c q = ci ∧ j < xs_nf q ∧ xs_f q j = t + 2) (k : jq_J l G M R Ex Y (pc + 3) L (.ref (ad t) :: st) n ad (xs_mem G ad X) cells slots) : jq_J l G M R Ex Y pc L (.ref (ad q) :: st) n ad (xs_mem G ad X) cells slots :=
  jq_getfield F hd hq (by rw [xs_m0 hs.1, hs.2.1]) ((xs_fs_at hs.2.2.1).trans (by unfold xs_fv; rw [hs.2.2.2])) k
theorem xq_putI {idx ci j q : Nat} {v : Int32} {ty : FieldType} (F : jq_FP M.1.cls idx ci j false ty) (hd : decode M.2.1 pc = .ok (.putfield idx, 3)) (hq : q < n) (hs : xs_k q = 0 ∧ xs_c q = ci ∧ j < xs_nf q ∧ xs_f q j = 0) (hn : narrow ty (.int v) = .int v) (hf : fits ty (.int v) = true) (k : jq_J l G M R Ex Y (pc + 3) L st n ad (xs_mem G ad (xs_si X q j v)) cells slots) : jq_J l G M R Ex Y pc L (.int v :: .ref (ad q) :: st) n ad (xs_mem G ad X) cells slots := by
  obtain ⟨h1, h2, h3, h4⟩ := hs
  subst h2
  exact jq_putfield F hd hq (xs_m0 h1) hn hf (by simpa [xs_fs] using h3) (by rw [xs_up_si h1 h3 h4]; exact k)
theorem xq_putL {idx ci j q : Nat} {v : Int64} (F : jq_FP M.1.cls idx ci j false .long) (hd : decode M.2.1 pc = .ok (.putfield idx, 3)) (hq : q < n) (hs : xs_k q = 0 ∧ xs_c q = ci ∧ j < xs_nf q ∧ xs_f q j = 1) (k : jq_J l G M R Ex Y (pc + 3) L st n ad (xs_mem G ad (xs_sl X q j v)) cells slots) : jq_J l G M R Ex Y pc L (.long v :: .ref (ad q) :: st) n ad (xs_mem G ad X) cells slots := by
  obtain ⟨h1, h2, h3, h4⟩ := hs
  subst h2
  exact jq_putfield F hd hq (xs_m0 h1) rfl rfl (by simpa [xs_fs] using h3) (by rw [xs_up_sl h1 h3 h4]; exact k)
end JX
/-- a contract in the fixed world: nothing is made; what comes back and the record behind it by Pr -/
def xs_Ct (l : Launch) (G : jq_G) (M : jq_M) (d : Nat) (av : List Value) (n : Nat) (ad : Nat → Nat) (X : xs_T) (Pr : Option Value → xs_T → Prop) : Prop :=
  jq_Ct l G M d 0 0 av n ad (xs_mem G ad X) (fun r n' ad' mem' => n' = n ∧ ad' = ad ∧ ∃ X', mem' = xs_mem G ad X' ∧ Pr r X')
def xs_Ye (G : jq_G) (n : Nat) (ad : Nat → Nat) (Pr : Option Value → xs_T → Prop) : jq_Y := jq_Ye G (fun r n' ad' mem' => n' = n ∧ ad' = ad ∧ ∃ X', mem' = xs_mem G ad X' ∧ Pr r X') 0 0
section JY
variable {l : Launch} {G : jq_G} {M M' : jq_M} {R : Room} {Ex : jq_E} {Y : jq_Y} {pc d d' idx na : Nat} {L : jq_L} {st As rest av : List Value} {n : Nat} {ad : Nat → Nat} {X : xs_T} {cells slots : Nat} {Pr Pr' : Option Value → xs_T → Prop}
theorem xs_Ct_of (hy : plainName M.1.cls = true) (hlen : (lg_sl av).length ≤ M.2.2.1) (hL : jq_ent av ++ List.replicate (M.2.2.1 - (jq_ent av).length) none = L)
    (k : jq_J l G M (jq_R d 0 0) jq_E0 (xs_Ye G n ad Pr) 0 L [] n ad (xs_mem G ad X) 0 0) : xs_Ct l G M d av n ad X Pr := jq_Ct_of hy hlen hL k
theorem xs_Ct_mono (h : xs_Ct l G M d av n ad X Pr) (hi : ∀ r X', Pr r X' → Pr' r X') : xs_Ct l G M d av n ad X Pr' := by
  intro sz p e ha hc hk s m args below hf hfit hP hKK
  obtain ⟨k, o, h1, h2, h3, ⟨⟨⟨r, n', ad', mem', e1, ⟨e2, e3, X', e4, e5⟩, e6⟩, hF⟩, hq⟩⟩ := h sz p e ha hc hk s m args below hf hfit hP hKK
  exact ⟨k, o, h1, h2, h3, ⟨⟨⟨r, n', ad', mem', e1, ⟨e2, e3, X', e4, hi r X' e5⟩, e6⟩, hF⟩, hq⟩⟩
theorem xq_ireturn {v : Int32} {ty : FieldType} (hd : decode M.2.1 pc = .ok (.ireturn, 1)) (hr : M.2.2.2 = some ty) (hn : narrow ty (.int v) = .int v) (k : Pr (some (.int v)) X) : jq_J l G M R Ex (xs_Ye G n ad Pr) pc L [.int v] n ad (xs_mem G ad X) 0 0 :=
  jq_ireturn hd hr hn (Nat.le_refl _) (Nat.le_refl _) ⟨rfl, rfl, X, rfl, k⟩
theorem xq_lreturn {v : Int64} (hd : decode M.2.1 pc = .ok (.lreturn, 1)) (hr : M.2.2.2 = some .long) (k : Pr (some (.long v)) X) : jq_J l G M R Ex (xs_Ye G n ad Pr) pc L [.long v] n ad (xs_mem G ad X) 0 0 :=
  jq_lreturn hd hr (Nat.le_refl _) (Nat.le_refl _) ⟨rfl, rfl, X, rfl, k⟩
theorem xq_return (hst : st = []) (hd : decode M.2.1 pc = .ok (.return_, 1)) (hr : M.2.2.2 = none) (k : Pr none X) : jq_J l G M R Ex (xs_Ye G n ad Pr) pc L st n ad (xs_mem G ad X) 0 0 :=
  jq_return hst hd hr (Nat.le_refl _) (Nat.le_refl _) ⟨rfl, rfl, X, rfl, k⟩
def xs_fit (R : Room) (M' : jq_M) (d' cells slots : Nat) : Prop := (d' + 1 ≤ R.frames ∧ 8 + (M'.2.2.1 + 11) + 40 * d' ≤ R.locals) ∧ cells ≤ R.cells ∧ slots ≤ R.slots
theorem xq_invV {q : Nat} (hd : decode M.2.1 pc = .ok (.invokevirtual idx, 3)) (F : jq_LV M.1.cls idx M' na) (hCt : xs_Ct l G M' d' (.ref (ad q) :: As) n ad X Pr') (hq : q < n) (hs : xs_k q = 0 ∧ (vwCl[xs_c q]?).map (fun z => z.1) = some M'.1.cls) (hn : As.length = na) (hst : st = As.reverse ++ .ref (ad q) :: rest) (hw : (rest.map fun v => v.category).sum ≤ 8) (hf : xs_fit R M' d' cells slots)
    (k : ∀ r X', Pr' r X' → jq_J l G M R Ex Y (pc + 3) L (r.toList ++ rest) n ad (xs_mem G ad X') cells slots) : jq_J l G M R Ex Y pc L st n ad (xs_mem G ad X) cells slots :=
  jq_invV hd F hCt hq (xs_m0 hs.1) hs.2 hn hst hw hf (fun r n' ad' mem' h => by obtain ⟨rfl, rfl, X', rfl, h⟩ := h; exact k r X' h)
theorem xq_invS (hd : decode M.2.1 pc = .ok (.invokestatic idx, 3)) (F : jq_LS M.1.cls idx M' na) (hCt : xs_Ct l G M' d' As n ad X Pr') (hn : As.length = na) (hst : st = As.reverse ++ rest) (hw : (rest.map fun v => v.category).sum ≤ 8) (hf : xs_fit R M' d' cells slots)
    (k : ∀ r X', Pr' r X' → jq_J l G M R Ex Y (pc + 3) L (r.toList ++ rest) n ad (xs_mem G ad X') cells slots) : jq_J l G M R Ex Y pc L st n ad (xs_mem G ad X) cells slots :=
  jq_invS hd F hCt hn hst hw hf (fun r n' ad' mem' h => by obtain ⟨rfl, rfl, X', rfl, h⟩ := h; exact k r X' h)
end JY
theorem xs_lt {q b n : Nat} (h : q < b) (hn : b ≤ n) : q < n := Nat.lt_of_lt_of_le h hn
end
section
/-! contracts whose answer and record are told outright; comparisons of small numbers -/
def xs_pd (r2 : Option Value) (X2 : xs_T) : Option Value → xs_T → Prop := fun r X' => r = r2 ∧ X' = X2
section JZ
variable {l : Launch} {G : jq_G} {M M' : jq_M} {R : Room} {Ex : jq_E} {Y : jq_Y} {pc d d' idx na : Nat} {L : jq_L} {st As rest av : List Value} {n : Nat} {ad : Nat → Nat} {X X2 : xs_T} {cells slots : Nat} {Pr Pr' : Option Value → xs_T → Prop}
theorem xq_vI {q : Nat} {v : Int32} (hd : decode M.2.1 pc = .ok (.invokevirtual idx, 3)) (F : jq_LV M.1.cls idx M' na) (hCt : xs_Ct l G M' d' (.ref (ad q) :: As) n ad X (xs_pd (some (.int v)) X2)) (hq : q < n) (hs : xs_k q = 0 ∧ (vwCl[xs_c q]?).map (fun z => z.1) = some M'.1.cls) (hn : As.length = na) (hst : st = As.reverse ++ .ref (ad q) :: rest) (hw : (rest.map fun v => v.category).sum ≤ 8) (hf : xs_fit R M' d' cells slots)
    (k : jq_J l G M R Ex Y (pc + 3) L (.int v :: rest) n ad (xs_mem G ad X2) cells slots) : jq_J l G M R Ex Y pc L st n ad (xs_mem G ad X) cells slots :=
  xq_invV hd F hCt hq hs hn hst hw hf (fun r X' h => by obtain ⟨rfl, rfl⟩ := h; exact k)
theorem xq_vL {q : Nat} {v : Int64} (hd : decode M.2.1 pc = .ok (.invokevirtual idx, 3)) (F : jq_LV M.1.cls idx M' na) (hCt : xs_Ct l G M' d' (.ref (ad q) :: As) n ad X (xs_pd (some (.long v)) X2)) (hq : q < n) (hs : xs_k q = 0 ∧ (vwCl[xs_c q]?).map (fun z => z.1) = some M'.1.cls) (hn : As.length = na) (hst : st = As.reverse ++ .ref (ad q) :: rest) (hw : (rest.map fun v => v.category).sum ≤ 8) (hf : xs_fit R M' d' cells slots)
    (k : jq_J l G M R Ex Y (pc + 3) L (.long v :: rest) n ad (xs_mem G ad X2) cells slots) : jq_J l G M R Ex Y pc L st n ad (xs_mem G ad X) cells slots :=
  xq_invV hd F hCt hq hs hn hst hw hf (fun r X' h => by obtain ⟨rfl, rfl⟩ := h; exact k)
theorem xq_vV {q : Nat} (hd : decode M.2.1 pc = .ok (.invokevirtual idx, 3)) (F : jq_LV M.1.cls idx M' na) (hCt : xs_Ct l G M' d' (.ref (ad q) :: As) n ad X (xs_pd none X2)) (hq : q < n) (hs : xs_k q = 0 ∧ (vwCl[xs_c q]?).map (fun z => z.1) = some M'.1.cls) (hn : As.length = na) (hst : st = As.reverse ++ .ref (ad q) :: rest) (hw : (rest.map fun v => v.category).sum ≤ 8) (hf : xs_fit R M' d' cells slots)
    (k : jq_J l G M R Ex Y (pc + 3) L rest n ad (xs_mem G ad X2) cells slots) : jq_J l G M R Ex Y pc L st n ad (xs_mem G ad X) cells slots :=
  xq_invV hd F hCt hq hs hn hst hw hf (fun r X' h => by obtain ⟨rfl, rfl⟩ := h; exact k)
theorem xq_sI {v : Int32} (hd : decode M.2.1 pc = .ok (.invokestatic idx, 3)) (F : jq_LS M.1.cls idx M' na) (hCt : xs_Ct l G M' d' As n ad X (xs_pd (some (.int v)) X2)) (hn : As.length = na) (hst : st = As.reverse ++ rest) (hw : (rest.map fun v => v.category).sum ≤ 8) (hf : xs_fit R M' d' cells slots)
    (k : jq_J l G M R Ex Y (pc + 3) L (.int v :: rest) n ad (xs_mem G ad X2) cells slots) : jq_J l G M R Ex Y pc L st n ad (xs_mem G ad X) cells slots :=
  xq_invS hd F hCt hn hst hw hf (fun r X' h => by obtain ⟨rfl, rfl⟩ := h; exact k)
theorem xq_sV (hd : decode M.2.1 pc = .ok (.invokestatic idx, 3)) (F : jq_LS M.1.cls idx M' na) (hCt : xs_Ct l G M' d' As n ad X (xs_pd none X2)) (hn : As.length = na) (hst : st = As.reverse ++ rest) (hw : (rest.map fun v => v.category).sum ≤ 8) (hf : xs_fit R M' d' cells slots)
    (k : jq_J l G M R Ex Y (pc + 3) L rest n ad (xs_mem G ad X2) cells slots) : jq_J l G M R Ex Y pc L st n ad (xs_mem G ad X) cells slots :=
  xq_invS hd F hCt hn hst hw hf (fun r X' h => by obtain ⟨rfl, rfl⟩ := h; exact k)
variable {a b : Nat} {off : Int} {tgt : Nat} {mem : Nat → va_E}
theorem jq_geN (hd : decode M.2.1 pc = .ok (.if_icmp .ge off, 3)) (ht : (pc : Int) + off = (tgt : Int)) (hb : a < 2 ^ 31 ∧ b < 2 ^ 31) (kt : b ≤ a → jq_J l G M R Ex Y tgt L st n ad mem cells slots) (kf : a < b → jq_J l G M R Ex Y (pc + 3) L st n ad mem cells slots) : jq_J l G M R Ex Y pc L (.int (nI b) :: .int (nI a) :: st) n ad mem cells slots :=
  jq_icmp_ge hd ht (fun h => kt ((nI_leI hb.2 hb.1).mp h)) (fun h => kf (Nat.lt_of_not_le (fun q => h ((nI_leI hb.2 hb.1).mpr q))))
theorem jq_gtN (hd : decode M.2.1 pc = .ok (.if_icmp .gt off, 3)) (ht : (pc : Int) + off = (tgt : Int)) (hb : a < 2 ^ 31 ∧ b < 2 ^ 31) (kt : b < a → jq_J l G M R Ex Y tgt L st n ad mem cells slots) (kf : a ≤ b → jq_J l G M R Ex Y (pc + 3) L st n ad mem cells slots) : jq_J l G M R Ex Y pc L (.int (nI b) :: .int (nI a) :: st) n ad mem cells slots :=
  jq_icmp_gt hd ht (fun h => kt ((nI_ltI hb.2 hb.1).mp h)) (fun h => kf (Nat.le_of_not_lt (fun q => h ((nI_ltI hb.2 hb.1).mpr q))))
theorem jq_ltN (hd : decode M.2.1 pc = .ok (.if_icmp .lt off, 3)) (ht : (pc : Int) + off = (tgt : Int)) (hb : a < 2 ^ 31 ∧ b < 2 ^ 31) (kt : a < b → jq_J l G M R Ex Y tgt L st n ad mem cells slots) (kf : b ≤ a → jq_J l G M R Ex Y (pc + 3) L st n ad mem cells slots) : jq_J l G M R Ex Y pc L (.int (nI b) :: .int (nI a) :: st) n ad mem cells slots :=
  jq_icmp_lt hd ht (fun h => kt ((nI_ltI hb.1 hb.2).mp h)) (fun h => kf (Nat.le_of_not_lt (fun q => h ((nI_ltI hb.1 hb.2).mpr q))))
theorem jq_leN (hd : decode M.2.1 pc = .ok (.if_icmp .le off, 3)) (ht : (pc : Int) + off = (tgt : Int)) (hb : a < 2 ^ 31 ∧ b < 2 ^ 31) (kt : a ≤ b → jq_J l G M R Ex Y tgt L st n ad mem cells slots) (kf : b < a → jq_J l G M R Ex Y (pc + 3) L st n ad mem cells slots) : jq_J l G M R Ex Y pc L (.int (nI b) :: .int (nI a) :: st) n ad mem cells slots :=
  jq_icmp_le hd ht (fun h => kt ((nI_leI hb.1 hb.2).mp h)) (fun h => kf (Nat.lt_of_not_le (fun q => h ((nI_leI hb.1 hb.2).mpr q))))
theorem jq_eqN (hd : decode M.2.1 pc = .ok (.if_icmp .eq off, 3)) (ht : (pc : Int) + off = (tgt : Int)) (hb : a < 2 ^ 31 ∧ b < 2 ^ 31) (kt : a = b → jq_J l G M R Ex Y tgt L st n ad mem cells slots) (kf : a ≠ b → jq_J l G M R Ex Y (pc + 3) L st n ad mem cells slots) : jq_J l G M R Ex Y pc L (.int (nI b) :: .int (nI a) :: st) n ad mem cells slots :=
  jq_icmp_eq hd ht (fun h => kt ((nI_eq hb.1 hb.2).mp h)) (fun h => kf (fun q => h ((nI_eq hb.1 hb.2).mpr q)))
theorem jq_neN (hd : decode M.2.1 pc = .ok (.if_icmp .ne off, 3)) (ht : (pc : Int) + off = (tgt : Int)) (hb : a < 2 ^ 31 ∧ b < 2 ^ 31) (kt : a ≠ b → jq_J l G M R Ex Y tgt L st n ad mem cells slots) (kf : a = b → jq_J l G M R Ex Y (pc + 3) L st n ad mem cells slots) : jq_J l G M R Ex Y pc L (.int (nI b) :: .int (nI a) :: st) n ad mem cells slots :=
  jq_icmp_ne hd ht (fun h => kt (fun q => h ((nI_eq hb.1 hb.2).mpr q))) (fun h => kf ((nI_eq hb.1 hb.2).mp h))
theorem jq_eqZ (hd : decode M.2.1 pc = .ok (.ifCond .eq off, 3)) (ht : (pc : Int) + off = (tgt : Int)) (hb : a < 2 ^ 31) (kt : a = 0 → jq_J l G M R Ex Y tgt L st n ad mem cells slots) (kf : a ≠ 0 → jq_J l G M R Ex Y (pc + 3) L st n ad mem cells slots) : jq_J l G M R Ex Y pc L (.int (nI a) :: st) n ad mem cells slots :=
  jq_if_eq hd ht (fun h => kt ((nI_eq hb (by decide)).mp (h.trans nI_0.symm))) (fun h => kf (fun q => h (by rw [q]; exact nI_0)))
theorem jq_neZ (hd : decode M.2.1 pc = .ok (.ifCond .ne off, 3)) (ht : (pc : Int) + off = (tgt : Int)) (hb : a < 2 ^ 31) (kt : a ≠ 0 → jq_J l G M R Ex Y tgt L st n ad mem cells slots) (kf : a = 0 → jq_J l G M R Ex Y (pc + 3) L st n ad mem cells slots) : jq_J l G M R Ex Y pc L (.int (nI a) :: st) n ad mem cells slots :=
  jq_if_ne hd ht (fun h => kt (fun q => h (by rw [q]; exact nI_0))) (fun h => kf ((nI_eq hb (by decide)).mp (h.trans nI_0.symm)))
theorem jq_leZ (hd : decode M.2.1 pc = .ok (.ifCond .le off, 3)) (ht : (pc : Int) + off = (tgt : Int)) (hb : a < 2 ^ 31) (kt : a = 0 → jq_J l G M R Ex Y tgt L st n ad mem cells slots) (kf : 0 < a → jq_J l G M R Ex Y (pc + 3) L st n ad mem cells slots) : jq_J l G M R Ex Y pc L (.int (nI a) :: st) n ad mem cells slots :=
  jq_if_le hd ht (fun h => kt (Nat.eq_zero_of_not_pos (fun q => nI_nle q hb h))) (fun h => kf (Nat.pos_of_ne_zero (fun q => h (by rw [q, nI_0]; decide))))
theorem jq_gtZ (hd : decode M.2.1 pc = .ok (.ifCond .gt off, 3)) (ht : (pc : Int) + off = (tgt : Int)) (hb : a < 2 ^ 31) (kt : 0 < a → jq_J l G M R Ex Y tgt L st n ad mem cells slots) (kf : a = 0 → jq_J l G M R Ex Y (pc + 3) L st n ad mem cells slots) : jq_J l G M R Ex Y pc L (.int (nI a) :: st) n ad mem cells slots :=
  jq_if_gt hd ht (fun h => kt (Nat.pos_of_ne_zero (fun q => by rw [q, nI_0] at h; revert h; decide))) (fun h => kf (Nat.eq_zero_of_not_pos (fun q => h (by have := nI_lt (a := 0) q hb; rw [nI_0] at this; exact this))))
theorem jq_ltZ (hd : decode M.2.1 pc = .ok (.ifCond .lt off, 3)) (hb : a < 2 ^ 31) (kf : jq_J l G M R Ex Y (pc + 3) L st n ad mem cells slots) (tgt : Nat) (ht : (pc : Int) + off = (tgt : Int)) : jq_J l G M R Ex Y pc L (.int (nI a) :: st) n ad mem cells slots :=
  jq_if_lt hd ht (fun h => absurd h (nI_pos hb)) (fun _ => kf)
theorem jq_iaddN (hd : decode M.2.1 pc = .ok (.iadd, 1)) (k : jq_J l G M R Ex Y (pc + 1) L (.int (nI (a + b)) :: st) n ad mem cells slots) : jq_J l G M R Ex Y pc L (.int (nI b) :: .int (nI a) :: st) n ad mem cells slots := jq_iadd hd (by rw [nI_add]; exact k)
theorem jq_imulN (hd : decode M.2.1 pc = .ok (.imul, 1)) (k : jq_J l G M R Ex Y (pc + 1) L (.int (nI (a * b)) :: st) n ad mem cells slots) : jq_J l G M R Ex Y pc L (.int (nI b) :: .int (nI a) :: st) n ad mem cells slots := jq_imul hd (by rw [pk_mul]; exact k)
theorem jq_isubN (hd : decode M.2.1 pc = .ok (.isub, 1)) (h : b ≤ a) (k : jq_J l G M R Ex Y (pc + 1) L (.int (nI (a - b)) :: st) n ad mem cells slots) : jq_J l G M R Ex Y pc L (.int (nI b) :: .int (nI a) :: st) n ad mem cells slots := jq_isub hd (by rw [pk_sub h]; exact k)
theorem jq_idivN (hd : decode M.2.1 pc = .ok (.idiv, 1)) (h : a < 2 ^ 31 ∧ 0 < b ∧ b < 2 ^ 31) (k : jq_J l G M R Ex Y (pc + 1) L (.int (nI (a / b)) :: st) n ad mem cells slots) : jq_J l G M R Ex Y pc L (.int (nI b) :: .int (nI a) :: st) n ad mem cells slots := jq_idiv hd (nI_ne0 h.2.1 h.2.2) (by rw [pk_div h.1 h.2.1 h.2.2]; exact k)
theorem jq_iremN (hd : decode M.2.1 pc = .ok (.irem, 1)) (h : a < 2 ^ 31 ∧ 0 < b ∧ b < 2 ^ 31) (k : jq_J l G M R Ex Y (pc + 1) L (.int (nI (a % b)) :: st) n ad mem cells slots) : jq_J l G M R Ex Y pc L (.int (nI b) :: .int (nI a) :: st) n ad mem cells slots := jq_irem hd (nI_ne0 h.2.1 h.2.2) (by rw [pk_rem h.1 h.2.1 h.2.2]; exact k)
theorem jq_iincN {i z : Nat} {L2 : jq_L} (hd : decode M.2.1 pc = .ok (.iinc i (z : Int), 3)) (hb : i < M.2.2.1) (ho : jq_ok1 L i = true) (hx : L[i]? = some (some (.int (nI a)))) (hL : L.set i (some (.int (nI (a + z)))) = L2) (k : jq_J l G M R Ex Y (pc + 3) L2 st n ad mem cells slots) : jq_J l G M R Ex Y pc L st n ad mem cells slots :=
  jq_iinc hd hb ho hx (by rw [← nI_add]; rfl) hL k
end JZ
theorem vp_inN {i N : Nat} (h : i < N) (hN : N < 2 ^ 31) : vp_in (nI i) N := vp_in_nI h hN
end
section
/-! what a method leaves alone: rows S and fields F apart, X' is X -/
def xs_fr (S : List Nat) (F : List (Nat × Nat)) (X X' : xs_T) : Prop := (∀ q k, (q, k) ∉ F → X'.1 q k = X.1 q k ∧ X'.2.1 q k = X.2.1 q k) ∧ ∀ q, q ∉ S → X'.2.2.1 q = X.2.2.1 q ∧ X'.2.2.2 q = X.2.2.2 q
theorem xs_fr_rf {S : List Nat} {F : List (Nat × Nat)} {X : xs_T} : xs_fr S F X X := ⟨fun _ _ _ => ⟨rfl, rfl⟩, fun _ _ => ⟨rfl, rfl⟩⟩
theorem xs_fr_tr {S : List Nat} {F : List (Nat × Nat)} {X Y Z : xs_T} (h1 : xs_fr S F X Y) (h2 : xs_fr S F Y Z) : xs_fr S F X Z :=
  ⟨fun q k h => ⟨(h2.1 q k h).1.trans (h1.1 q k h).1, (h2.1 q k h).2.trans (h1.1 q k h).2⟩, fun q h => ⟨(h2.2 q h).1.trans (h1.2 q h).1, (h2.2 q h).2.trans (h1.2 q h).2⟩⟩
theorem xs_fr_mo {S S' : List Nat} {F F' : List (Nat × Nat)} {X Y : xs_T} (h1 : xs_fr S F X Y) (h : (S.all (fun q => decide (q ∈ S')) && F.all (fun q => decide (q ∈ F'))) = true) : xs_fr S' F' X Y := by
  rw [Bool.and_eq_true] at h
  refine ⟨fun q k hq => h1.1 q k (fun z => hq (of_decide_eq_true (List.all_eq_true.mp h.2 _ z))), fun q hq => h1.2 q (fun z => hq (of_decide_eq_true (List.all_eq_true.mp h.1 _ z)))⟩
theorem xs_fr_ai {S : List Nat} {F : List (Nat × Nat)} {X Y : xs_T} {q : Nat} {f : Nat → Int32} (h : xs_fr S F X Y) (hq : q ∈ S) : xs_fr S F X (xs_ai Y q f) :=
  ⟨h.1, fun j hj => ⟨(show va_up Y.2.2.1 q f j = _ by rw [va_up_ne _ _ (fun e => hj (by rw [e]; exact hq))]; exact (h.2 j hj).1), (h.2 j hj).2⟩⟩
theorem xs_fr_al {S : List Nat} {F : List (Nat × Nat)} {X Y : xs_T} {q : Nat} {f : Nat → Int64} (h : xs_fr S F X Y) (hq : q ∈ S) : xs_fr S F X (xs_al Y q f) :=
  ⟨h.1, fun j hj => ⟨(h.2 j hj).1, (show va_up Y.2.2.2 q f j = _ by rw [va_up_ne _ _ (fun e => hj (by rw [e]; exact hq))]; exact (h.2 j hj).2)⟩⟩
theorem xs_fr_si {S : List Nat} {F : List (Nat × Nat)} {X Y : xs_T} {q k : Nat} {v : Int32} (h : xs_fr S F X Y) (hq : (q, k) ∈ F) : xs_fr S F X (xs_si Y q k v) := by
  refine ⟨fun a b hab => ⟨?_, (h.1 a b hab).2⟩, h.2⟩
  show va_up Y.1 q (va_up (Y.1 q) k v) a b = _
  by_cases ha : a = q
  · subst ha
    rw [va_up_self, va_up_ne _ _ (fun e => hab (by rw [e]; exact hq))]
    exact (h.1 a b hab).1
  · rw [va_up_ne _ _ ha]
    exact (h.1 a b hab).1
theorem xs_fr_sl {S : List Nat} {F : List (Nat × Nat)} {X Y : xs_T} {q k : Nat} {v : Int64} (h : xs_fr S F X Y) (hq : (q, k) ∈ F) : xs_fr S F X (xs_sl Y q k v) := by
  refine ⟨fun a b hab => ⟨(h.1 a b hab).1, ?_⟩, h.2⟩
  show va_up Y.2.1 q (va_up (Y.2.1 q) k v) a b = _
  by_cases ha : a = q
  · subst ha
    rw [va_up_self, va_up_ne _ _ (fun e => hab (by rw [e]; exact hq))]
    exact (h.1 a b hab).2
  · rw [va_up_ne _ _ ha]
    exact (h.1 a b hab).2
/-- an int field, a long field, a row: they stay -/
theorem xs_fi {S : List Nat} {F : List (Nat × Nat)} {X Y : xs_T} (h : xs_fr S F X Y) (q k : Nat) {v : Int32} (hv : X.1 q k = v) (hq : decide ((q, k) ∈ F) = false := by decide) : Y.1 q k = v := (h.1 q k (of_decide_eq_false hq)).1.trans hv
theorem xs_fl {S : List Nat} {F : List (Nat × Nat)} {X Y : xs_T} (h : xs_fr S F X Y) (q k : Nat) {v : Int64} (hv : X.2.1 q k = v) (hq : decide ((q, k) ∈ F) = false := by decide) : Y.2.1 q k = v := (h.1 q k (of_decide_eq_false hq)).2.trans hv
theorem xs_fa {S : List Nat} {F : List (Nat × Nat)} {X Y : xs_T} (h : xs_fr S F X Y) (q : Nat) (hq : decide (q ∈ S) = false := by decide) : Y.2.2.1 q = X.2.2.1 q := (h.2 q (of_decide_eq_false hq)).1
theorem xs_fb {S : List Nat} {F : List (Nat × Nat)} {X Y : xs_T} (h : xs_fr S F X Y) (q : Nat) (hq : decide (q ∈ S) = false := by decide) : Y.2.2.2 q = X.2.2.2 q := (h.2 q (of_decide_eq_false hq)).2
theorem xs_ai_at {X : xs_T} {q : Nat} {f : Nat → Int32} : (xs_ai X q f).2.2.1 q = f := va_up_self _ _ _
theorem xs_ai_ne {X : xs_T} {q j : Nat} {f : Nat → Int32} (h : j ≠ q) : (xs_ai X q f).2.2.1 j = X.2.2.1 j := va_up_ne _ _ h
theorem xs_al_at {X : xs_T} {q : Nat} {f : Nat → Int64} : (xs_al X q f).2.2.2 q = f := va_up_self _ _ _
theorem xs_al_ne {X : xs_T} {q j : Nat} {f : Nat → Int64} (h : j ≠ q) : (xs_al X q f).2.2.2 j = X.2.2.2 j := va_up_ne _ _ h
theorem xs_si_at {X : xs_T} {q k : Nat} {v : Int32} : (xs_si X q k v).1 q k = v := by simp [xs_si, va_up]
theorem xs_si_ne {X : xs_T} {q k a b : Nat} {v : Int32} (h : ¬ (a = q ∧ b = k)) : (xs_si X q k v).1 a b = X.1 a b := by
  show va_up X.1 q (va_up (X.1 q) k v) a b = X.1 a b
  by_cases ha : a = q
  · subst ha
    rw [va_up_self, va_up_ne _ _ (fun e => h ⟨rfl, e⟩)]
  · rw [va_up_ne _ _ ha]
theorem xs_sl_at {X : xs_T} {q k : Nat} {v : Int64} : (xs_sl X q k v).2.1 q k = v := by simp [xs_sl, va_up]
theorem xs_sl_ne {X : xs_T} {q k a b : Nat} {v : Int64} (h : ¬ (a = q ∧ b = k)) : (xs_sl X q k v).2.1 a b = X.2.1 a b := by
  show va_up X.2.1 q (va_up (X.2.1 q) k v) a b = X.2.1 a b
  by_cases ha : a = q
  · subst ha
    rw [va_up_self, va_up_ne _ _ (fun e => h ⟨rfl, e⟩)]
  · rw [va_up_ne _ _ ha]
/-- a row's place written: what it holds now, by numbers -/
theorem xs_upd {f g : Nat → Int32} {i : Nat} {v : Int32} (hi : i < 2 ^ 31) (h : ∀ j, j ≠ i → f j = g j) (hv : v = g i) : ∀ j, upd f (nI i).toNatClampNeg v j = g j := by
  intro j
  rw [nI_clamp hi]
  by_cases hj : j = i
  · subst hj; rw [pk_us]; exact hv
  · rw [pk_un hj]; exact h j hj
theorem xs_upd_at {f : Nat → Int32} {i : Nat} {v : Int32} (hi : i < 2 ^ 31) : upd f (nI i).toNatClampNeg v i = v := by rw [nI_clamp hi]; exact pk_us
theorem xs_upd_ne {f : Nat → Int32} {i j : Nat} {v : Int32} (hi : i < 2 ^ 31) (h : j ≠ i) : upd f (nI i).toNatClampNeg v j = f j := by rw [nI_clamp hi]; exact pk_un h
theorem xs_updL_at {f : Nat → Int64} {i : Nat} {v : Int64} (hi : i < 2 ^ 31) : vp_updL f (nI i).toNatClampNeg v i = v := by rw [nI_clamp hi]; exact pk_uLs
theorem xs_updL_ne {f : Nat → Int64} {i j : Nat} {v : Int64} (hi : i < 2 ^ 31) (h : j ≠ i) : vp_updL f (nI i).toNatClampNeg v j = f j := by rw [nI_clamp hi]; exact pk_uLn h
def xs_pv (P : xs_T → Prop) : Option Value → xs_T → Prop := fun r X' => r = none ∧ P X'
def xs_pi (P : Int32 → xs_T → Prop) : Option Value → xs_T → Prop := fun r X' => ∃ v, r = some (.int v) ∧ P v X'
def xs_pl (P : Int64 → xs_T → Prop) : Option Value → xs_T → Prop := fun r X' => ∃ v, r = some (.long v) ∧ P v X'
section JF
variable {l : Launch} {G : jq_G} {M M' : jq_M} {R : Room} {Ex : jq_E} {Y : jq_Y} {pc d d' idx na : Nat} {L : jq_L} {st As rest av : List Value} {n : Nat} {ad : Nat → Nat} {X X2 : xs_T} {cells slots : Nat}
theorem xq_rI {q : Nat} {P : Int32 → xs_T → Prop} (hd : decode M.2.1 pc = .ok (.invokevirtual idx, 3)) (F : jq_LV M.1.cls idx M' na) (hCt : xs_Ct l G M' d' (.ref (ad q) :: As) n ad X (xs_pi P)) (hq : q < n) (hs : xs_k q = 0 ∧ (vwCl[xs_c q]?).map (fun z => z.1) = some M'.1.cls) (hn : As.length = na) (hst : st = As.reverse ++ .ref (ad q) :: rest) (hw : (rest.map fun v => v.category).sum ≤ 8) (hf : xs_fit R M' d' cells slots)
    (k : ∀ v X', P v X' → jq_J l G M R Ex Y (pc + 3) L (.int v :: rest) n ad (xs_mem G ad X') cells slots) : jq_J l G M R Ex Y pc L st n ad (xs_mem G ad X) cells slots :=
  xq_invV hd F hCt hq hs hn hst hw hf (fun r X' h => by obtain ⟨v, rfl, h⟩ := h; exact k v X' h)
theorem xq_rL {q : Nat} {P : Int64 → xs_T → Prop} (hd : decode M.2.1 pc = .ok (.invokevirtual idx, 3)) (F : jq_LV M.1.cls idx M' na) (hCt : xs_Ct l G M' d' (.ref (ad q) :: As) n ad X (xs_pl P)) (hq : q < n) (hs : xs_k q = 0 ∧ (vwCl[xs_c q]?).map (fun z => z.1) = some M'.1.cls) (hn : As.length = na) (hst : st = As.reverse ++ .ref (ad q) :: rest) (hw : (rest.map fun v => v.category).sum ≤ 8) (hf : xs_fit R M' d' cells slots)
    (k : ∀ v X', P v X' → jq_J l G M R Ex Y (pc + 3) L (.long v :: rest) n ad (xs_mem G ad X') cells slots) : jq_J l G M R Ex Y pc L st n ad (xs_mem G ad X) cells slots :=
  xq_invV hd F hCt hq hs hn hst hw hf (fun r X' h => by obtain ⟨v, rfl, h⟩ := h; exact k v X' h)
theorem xq_rV {q : Nat} {P : xs_T → Prop} (hd : decode M.2.1 pc = .ok (.invokevirtual idx, 3)) (F : jq_LV M.1.cls idx M' na) (hCt : xs_Ct l G M' d' (.ref (ad q) :: As) n ad X (xs_pv P)) (hq : q < n) (hs : xs_k q = 0 ∧ (vwCl[xs_c q]?).map (fun z => z.1) = some M'.1.cls) (hn : As.length = na) (hst : st = As.reverse ++ .ref (ad q) :: rest) (hw : (rest.map fun v => v.category).sum ≤ 8) (hf : xs_fit R M' d' cells slots)
    (k : ∀ X', P X' → jq_J l G M R Ex Y (pc + 3) L rest n ad (xs_mem G ad X') cells slots) : jq_J l G M R Ex Y pc L st n ad (xs_mem G ad X) cells slots :=
  xq_invV hd F hCt hq hs hn hst hw hf (fun r X' h => by obtain ⟨rfl, h⟩ := h; exact k X' h)
theorem xq_rSV {P : xs_T → Prop} (hd : decode M.2.1 pc = .ok (.invokestatic idx, 3)) (F : jq_LS M.1.cls idx M' na) (hCt : xs_Ct l G M' d' As n ad X (xs_pv P)) (hn : As.length = na) (hst : st = As.reverse ++ rest) (hw : (rest.map fun v => v.category).sum ≤ 8) (hf : xs_fit R M' d' cells slots)
    (k : ∀ X', P X' → jq_J l G M R Ex Y (pc + 3) L rest n ad (xs_mem G ad X') cells slots) : jq_J l G M R Ex Y pc L st n ad (xs_mem G ad X) cells slots :=
  xq_invS hd F hCt hn hst hw hf (fun r X' h => by obtain ⟨rfl, h⟩ := h; exact k X' h)
theorem xs_nm {v v' : Int32} (h : v = v') (k : jq_J l G M R Ex Y pc L (.int v' :: st) n ad (xs_mem G ad X) cells slots) : jq_J l G M R Ex Y pc L (.int v :: st) n ad (xs_mem G ad X) cells slots := h ▸ k
end JF
/-! lists of truths -/
theorem tb_allT {p : Nat → Bool} {n : Nat} (h : ∀ c, c < n → p c = true) : (List.range n).all p = true := List.all_eq_true.mpr (fun c hc => h c (List.mem_range.mp hc))
theorem tb_allF {p : Nat → Bool} {n c : Nat} (hc : c < n) (h : p c = false) : (List.range n).all p = false := by
  rw [Bool.eq_false_iff]
  intro q
  have := List.all_eq_true.mp q c (List.mem_range.mpr hc)
  rw [h] at this
  cases this
theorem tb_allI {p : Nat → Bool} {n : Nat} : (List.range n).all p = true ↔ ∀ c, c < n → p c = true := ⟨fun h c hc => List.all_eq_true.mp h c (List.mem_range.mpr hc), tb_allT⟩
theorem tb_anyT {p : Nat → Bool} {n c : Nat} (hc : c < n) (h : p c = true) : (List.range n).any p = true := List.any_eq_true.mpr ⟨c, List.mem_range.mpr hc, h⟩
theorem tb_anyF {p : Nat → Bool} {n : Nat} (h : ∀ c, c < n → p c = false) : (List.range n).any p = false := by
  rw [Bool.eq_false_iff]
  intro q
  obtain ⟨c, h1, h2⟩ := List.any_eq_true.mp q
  rw [h c (List.mem_range.mp h1)] at h2
  cases h2
end
section
/-! plain facts to paste, each family by itself; over the kit's nI, lN and upd -/
/-! ===== drawers: more things than places ===== -/
theorem fb_holes : ∀ (m n : Nat) (f : Nat → Nat), (∀ i, i < n → f i < m) → (∀ i j, i < j → j < n → f i ≠ f j) → n ≤ m := by
  intro m
  induction m with
  | zero =>
    intro n f h1 _
    rcases Nat.eq_zero_or_pos n with h | h
    · omega
    · exact absurd (h1 0 h) (Nat.not_lt_zero _)
  | succ m ih =>
    intro n f h1 h2
    by_cases hx : ∃ i, i < n ∧ f i = m
    · obtain ⟨a, ha, hfa⟩ := hx
      have hg := ih (n - 1) (fun i => if i < a then f i else f (i + 1)) (by
        intro i hi
        by_cases q : i < a
        · simp only [if_pos q]
          have b1 := h1 i (by omega)
          have b2 := h2 i a q ha
          omega
        · simp only [if_neg q]
          have b1 := h1 (i + 1) (by omega)
          have b2 := h2 a (i + 1) (by omega) (by omega)
          omega) (by
        intro i j hij hj
        by_cases q : i < a
        · by_cases r : j < a
          · simp only [if_pos q, if_pos r]
            exact h2 i j hij (by omega)
          · simp only [if_pos q, if_neg r]
            exact h2 i (j + 1) (by omega) (by omega)
        · have r : ¬ j < a := by omega
          simp only [if_neg q, if_neg r]
          exact h2 (i + 1) (j + 1) (by omega) (by omega))
      omega
    · have hg := ih n f (fun i hi => by
        have b1 := h1 i hi
        have b2 : f i ≠ m := fun e => hx ⟨i, hi, e⟩
        omega) h2
      omega
/-- two of them in one place -/
theorem fb_twice {m n : Nat} {f : Nat → Nat} (h : ∀ i, i < n → f i < m) (hm : m < n) : ∃ i j, i < j ∧ j < n ∧ f i = f j := by
  refine Classical.byContradiction fun hx => ?_
  have := fb_holes m n f h (fun i j hij hj e => hx ⟨i, j, hij, hj, e⟩)
  omega
/-- as many as places, none twice: each place is taken -/
theorem fb_onto {n : Nat} {f : Nat → Nat} (h : ∀ i, i < n → f i < n) (h2 : ∀ i j, i < j → j < n → f i ≠ f j) {y : Nat} (hy : y < n) : ∃ i, i < n ∧ f i = y := by
  refine Classical.byContradiction fun hx => ?_
  have hne : ∀ i, i < n → f i ≠ y := fun i hi e => hx ⟨i, hi, e⟩
  have := fb_holes (n - 1) n (fun i => if f i < y then f i else f i - 1) (by
    intro i hi
    have b1 := h i hi
    have b2 := hne i hi
    by_cases q : f i < y
    · simp only [if_pos q]; omega
    · simp only [if_neg q]; omega) (by
    intro i j hij hj
    have b1 := hne i (by omega)
    have b2 := hne j hj
    have b3 := h2 i j hij hj
    by_cases q : f i < y
    · by_cases r : f j < y
      · simp only [if_pos q, if_pos r]; exact b3
      · simp only [if_pos q, if_neg r]; omega
    · by_cases r : f j < y
      · simp only [if_neg q, if_pos r]; omega
      · simp only [if_neg q, if_neg r]; omega)
  omega
/-! ===== how many places have a property ===== -/
def fb_ct (p : Nat → Bool) : Nat → Nat
  | 0 => 0
  | n + 1 => fb_ct p n + (if p n then 1 else 0)
theorem fb_ct_succ (p : Nat → Bool) (n : Nat) : fb_ct p (n + 1) = fb_ct p n + (if p n then 1 else 0) := rfl
theorem fb_ct_le (p : Nat → Bool) : ∀ n, fb_ct p n ≤ n
  | 0 => Nat.le_refl _
  | n + 1 => by
    have h := fb_ct_le p n
    rw [fb_ct_succ]
    split <;> omega
theorem fb_ct_step (p : Nat → Bool) (m : Nat) : ∀ n, fb_ct p m ≤ fb_ct p (m + n)
  | 0 => Nat.le_refl _
  | n + 1 => by
    have h := fb_ct_step p m n
    show fb_ct p m ≤ fb_ct p (m + n + 1)
    rw [fb_ct_succ]
    omega
theorem fb_ct_mono (p : Nat → Bool) {m n : Nat} (h : m ≤ n) : fb_ct p m ≤ fb_ct p n := by
  have := fb_ct_step p m (n - m)
  rwa [Nat.add_sub_cancel' h] at this
theorem fb_ct_cong {p q : Nat → Bool} : ∀ {n : Nat}, (∀ k, k < n → p k = q k) → fb_ct p n = fb_ct q n
  | 0, _ => rfl
  | n + 1, h => by
    rw [fb_ct_succ, fb_ct_succ, fb_ct_cong (fun k hk => h k (by omega)), h n (by omega)]
/-- one place changed -/
theorem fb_ct_out (p : Nat → Bool) (b : Bool) {i n : Nat} (h : n ≤ i) : fb_ct (fun k => if k = i then b else p k) n = fb_ct p n :=
  fb_ct_cong fun k hk => if_neg (by omega)
theorem fb_ct_upd (p : Nat → Bool) (b : Bool) {i : Nat} : ∀ {n : Nat}, i < n → fb_ct (fun k => if k = i then b else p k) n + (if p i then 1 else 0) = fb_ct p n + (if b then 1 else 0)
  | 0, h => absurd h (Nat.not_lt_zero i)
  | n + 1, h => by
    rw [fb_ct_succ, fb_ct_succ]
    rcases Nat.lt_or_ge i n with q | q
    · have := fb_ct_upd p b q
      have e : (if n = i then b else p n) = p n := if_neg (by omega)
      rw [e]
      omega
    · have e : i = n := by omega
      subst e
      rw [fb_ct_out p b (Nat.le_refl _)]
      simp only [if_true]
      omega
theorem fb_ct_sub {p q : Nat → Bool} : ∀ {n : Nat}, (∀ k, k < n → p k = true → q k = true) → fb_ct p n ≤ fb_ct q n
  | 0, _ => Nat.le_refl _
  | n + 1, h => by
    have h1 := fb_ct_sub (n := n) (p := p) (q := q) (fun k hk => h k (by omega))
    have h2 := h n (by omega)
    rw [fb_ct_succ, fb_ct_succ]
    cases hp : p n <;> cases hq : q n <;> simp_all <;> omega
theorem fb_ct_or {p q : Nat → Bool} : ∀ {n : Nat}, (∀ k, k < n → ¬ (p k = true ∧ q k = true)) → fb_ct (fun k => p k || q k) n = fb_ct p n + fb_ct q n
  | 0, _ => rfl
  | n + 1, h => by
    have h1 := fb_ct_or (n := n) (p := p) (q := q) (fun k hk => h k (by omega))
    have h2 := h n (by omega)
    rw [fb_ct_succ, fb_ct_succ, fb_ct_succ, h1]
    cases hp : p n <;> cases hq : q n <;> simp_all <;> omega
theorem fb_ct_not (p : Nat → Bool) : ∀ n, fb_ct p n + fb_ct (fun k => !p k) n = n
  | 0 => rfl
  | n + 1 => by
    have h := fb_ct_not p n
    rw [fb_ct_succ, fb_ct_succ]
    cases p n <;> simp <;> omega
theorem fb_ct_split (p : Nat → Bool) (m : Nat) : ∀ n, fb_ct p (m + n) = fb_ct p m + fb_ct (fun k => p (m + k)) n
  | 0 => rfl
  | n + 1 => by
    have h := fb_ct_split p m n
    show fb_ct p (m + n + 1) = _
    rw [fb_ct_succ, fb_ct_succ, h, Nat.add_assoc]
theorem fb_ct_zero {p : Nat → Bool} : ∀ {n : Nat}, fb_ct p n = 0 ↔ ∀ k, k < n → p k = false
  | 0 => ⟨fun _ k hk => absurd hk (Nat.not_lt_zero k), fun _ => rfl⟩
  | n + 1 => by
    have h := fb_ct_zero (p := p) (n := n)
    rw [fb_ct_succ]
    constructor
    · intro e k hk
      have e1 : fb_ct p n = 0 := by omega
      rcases Nat.lt_or_ge k n with q | q
      · exact h.mp e1 k q
      · have ek : k = n := by omega
        subst ek
        cases hp : p k
        · rfl
        · simp [hp] at e
    · intro a
      rw [h.mpr (fun k hk => a k (by omega)), a n (by omega)]
      rfl
theorem fb_ct_pos {p : Nat → Bool} {n : Nat} : 0 < fb_ct p n ↔ ∃ k, k < n ∧ p k = true := by
  constructor
  · intro h
    refine Classical.byContradiction fun hx => ?_
    have := fb_ct_zero.mpr (fun k hk => by
      cases hp : p k
      · rfl
      · exact absurd ⟨k, hk, hp⟩ hx : ∀ k, k < n → p k = false)
    omega
  · rintro ⟨k, hk, hp⟩
    rcases Nat.eq_zero_or_pos (fb_ct p n) with e | e
    · have := fb_ct_zero.mp e k hk
      rw [this] at hp
      cases hp
    · exact e
theorem fb_ct_all {p : Nat → Bool} {n : Nat} : fb_ct p n = n ↔ ∀ k, k < n → p k = true := by
  have h := fb_ct_not p n
  constructor
  · intro e k hk
    have z : fb_ct (fun k => !p k) n = 0 := by omega
    have := fb_ct_zero.mp z k hk
    cases hp : p k
    · simp [hp] at this
    · rfl
  · intro a
    have z : fb_ct (fun k => !p k) n = 0 := fb_ct_zero.mpr (fun k hk => by simp [a k hk])
    omega
/-- the k-th place with the property -/
theorem fb_ct_kth {p : Nat → Bool} {k : Nat} : ∀ {n : Nat}, k < fb_ct p n → ∃ i, i < n ∧ p i = true ∧ fb_ct p i = k
  | 0, h => absurd h (Nat.not_lt_zero k)
  | n + 1, h => by
    rcases Nat.lt_or_ge k (fb_ct p n) with q | q
    · obtain ⟨i, h1, h2⟩ := fb_ct_kth q
      exact ⟨i, by omega, h2⟩
    · rw [fb_ct_succ] at h
      cases hp : p n
      · simp [hp] at h; omega
      · simp [hp] at h
        exact ⟨n, by omega, hp, by omega⟩
theorem fb_ct_kth_one {p : Nat → Bool} {i j : Nat} (hi : p i = true) (hj : p j = true) (e : fb_ct p i = fb_ct p j) : i = j := by
  have key : ∀ a b : Nat, a < b → p a = true → fb_ct p a < fb_ct p b := by
    intro a b hab ha
    have h := fb_ct_mono p (show a + 1 ≤ b from hab)
    rw [fb_ct_succ, ha] at h
    simp at h
    omega
  rcases Nat.lt_trichotomy i j with q | q | q
  · have := key i j q hi; omega
  · exact q
  · have := key j i q hj; omega
/-! ===== sums over a range: one place changed, parts, bounds ===== -/
def fb_sm (f : Nat → Nat) : Nat → Nat
  | 0 => 0
  | n + 1 => fb_sm f n + f n
theorem fb_sm_succ (f : Nat → Nat) (n : Nat) : fb_sm f (n + 1) = fb_sm f n + f n := rfl
theorem fb_sm_cong {f g : Nat → Nat} : ∀ {n : Nat}, (∀ k, k < n → f k = g k) → fb_sm f n = fb_sm g n
  | 0, _ => rfl
  | n + 1, h => by rw [fb_sm_succ, fb_sm_succ, fb_sm_cong (fun k hk => h k (by omega)), h n (by omega)]
theorem fb_sm_out (f : Nat → Nat) (v : Nat) {i n : Nat} (h : n ≤ i) : fb_sm (fun k => if k = i then v else f k) n = fb_sm f n :=
  fb_sm_cong fun k hk => if_neg (by omega)
theorem fb_sm_upd (f : Nat → Nat) (v : Nat) {i : Nat} : ∀ {n : Nat}, i < n → fb_sm (fun k => if k = i then v else f k) n + f i = fb_sm f n + v
  | 0, h => absurd h (Nat.not_lt_zero i)
  | n + 1, h => by
    rw [fb_sm_succ, fb_sm_succ]
    rcases Nat.lt_or_ge i n with q | q
    · have := fb_sm_upd f v q
      have e : (if n = i then v else f n) = f n := if_neg (by omega)
      rw [e]
      omega
    · have e : i = n := by omega
      subst e
      rw [fb_sm_out f v (Nat.le_refl _)]
      simp only [if_true]
      omega
theorem fb_sm_add (f g : Nat → Nat) : ∀ n, fb_sm (fun k => f k + g k) n = fb_sm f n + fb_sm g n
  | 0 => rfl
  | n + 1 => by
    have h := fb_sm_add f g n
    rw [fb_sm_succ, fb_sm_succ, fb_sm_succ, h]
    omega
theorem fb_sm_le {f g : Nat → Nat} : ∀ {n : Nat}, (∀ k, k < n → f k ≤ g k) → fb_sm f n ≤ fb_sm g n
  | 0, _ => Nat.le_refl _
  | n + 1, h => by
    have h1 := fb_sm_le (n := n) (f := f) (g := g) (fun k hk => h k (by omega))
    have h2 := h n (by omega)
    rw [fb_sm_succ, fb_sm_succ]
    omega
theorem fb_sm_const (c : Nat) : ∀ n, fb_sm (fun _ => c) n = n * c
  | 0 => by rw [Nat.zero_mul]; rfl
  | n + 1 => by rw [fb_sm_succ, fb_sm_const c n, Nat.succ_mul]
theorem fb_sm_bound {f : Nat → Nat} {c n : Nat} (h : ∀ k, k < n → f k ≤ c) : fb_sm f n ≤ n * c := by
  rw [← fb_sm_const c n]
  exact fb_sm_le h
theorem fb_sm_mono (f : Nat → Nat) (m : Nat) : ∀ n, fb_sm f m ≤ fb_sm f (m + n)
  | 0 => Nat.le_refl _
  | n + 1 => by
    have h := fb_sm_mono f m n
    show fb_sm f m ≤ fb_sm f (m + n + 1)
    rw [fb_sm_succ]
    omega
theorem fb_sm_part (f : Nat → Nat) {i n : Nat} (h : i < n) : fb_sm f i + f i ≤ fb_sm f n := by
  have := fb_sm_mono f (i + 1) (n - (i + 1))
  rw [fb_sm_succ, show i + 1 + (n - (i + 1)) = n by omega] at this
  exact this
theorem fb_sm_split (f : Nat → Nat) (m : Nat) : ∀ n, fb_sm f (m + n) = fb_sm f m + fb_sm (fun k => f (m + k)) n
  | 0 => rfl
  | n + 1 => by
    have h := fb_sm_split f m n
    show fb_sm f (m + n + 1) = _
    rw [fb_sm_succ, fb_sm_succ, h, Nat.add_assoc]
theorem fb_sm_zero {f : Nat → Nat} {n : Nat} (h : fb_sm f n = 0) : ∀ k, k < n → f k = 0 := fun k hk => by
  have := fb_sm_part f hk
  omega
/-- the same over whole numbers -/
def fb_si (f : Nat → Int) : Nat → Int
  | 0 => 0
  | n + 1 => fb_si f n + f n
theorem fb_si_succ (f : Nat → Int) (n : Nat) : fb_si f (n + 1) = fb_si f n + f n := rfl
theorem fb_si_cong {f g : Nat → Int} : ∀ {n : Nat}, (∀ k, k < n → f k = g k) → fb_si f n = fb_si g n
  | 0, _ => rfl
  | n + 1, h => by rw [fb_si_succ, fb_si_succ, fb_si_cong (fun k hk => h k (by omega)), h n (by omega)]
theorem fb_si_out (f : Nat → Int) (v : Int) {i n : Nat} (h : n ≤ i) : fb_si (fun k => if k = i then v else f k) n = fb_si f n :=
  fb_si_cong fun k hk => if_neg (by omega)
theorem fb_si_upd (f : Nat → Int) (v : Int) {i : Nat} : ∀ {n : Nat}, i < n → fb_si (fun k => if k = i then v else f k) n = fb_si f n - f i + v
  | 0, h => absurd h (Nat.not_lt_zero i)
  | n + 1, h => by
    rw [fb_si_succ, fb_si_succ]
    rcases Nat.lt_or_ge i n with q | q
    · have := fb_si_upd f v q
      have e : (if n = i then v else f n) = f n := if_neg (by omega)
      rw [e]
      omega
    · have e : i = n := by omega
      subst e
      rw [fb_si_out f v (Nat.le_refl _)]
      simp only [if_true]
      omega
theorem fb_si_add (f g : Nat → Int) : ∀ n, fb_si (fun k => f k + g k) n = fb_si f n + fb_si g n
  | 0 => rfl
  | n + 1 => by
    have h := fb_si_add f g n
    rw [fb_si_succ, fb_si_succ, fb_si_succ, h]
    omega
theorem fb_si_sub (f g : Nat → Int) : ∀ n, fb_si (fun k => f k - g k) n = fb_si f n - fb_si g n
  | 0 => rfl
  | n + 1 => by
    have h := fb_si_sub f g n
    rw [fb_si_succ, fb_si_succ, fb_si_succ, h]
    omega
theorem fb_si_mul (c : Int) (f : Nat → Int) : ∀ n, fb_si (fun k => c * f k) n = c * fb_si f n
  | 0 => (Int.mul_zero c).symm
  | n + 1 => by
    have h := fb_si_mul c f n
    rw [fb_si_succ, fb_si_succ, h, Int.mul_add]
theorem fb_si_split (f : Nat → Int) (m : Nat) : ∀ n, fb_si f (m + n) = fb_si f m + fb_si (fun k => f (m + k)) n
  | 0 => (Int.add_zero _).symm
  | n + 1 => by
    have h := fb_si_split f m n
    show fb_si f (m + n + 1) = _
    rw [fb_si_succ, fb_si_succ, h, Int.add_assoc]
theorem fb_si_nat (f : Nat → Nat) : ∀ n, fb_si (fun k => (f k : Int)) n = (fb_sm f n : Int)
  | 0 => rfl
  | n + 1 => by
    have h := fb_si_nat f n
    rw [fb_si_succ, fb_sm_succ, h]
    omega
theorem fb_si_bound {f : Nat → Int} {c : Int} (hc : 0 ≤ c) : ∀ {n : Nat}, (∀ k, k < n → -c ≤ f k ∧ f k ≤ c) → -(n * c) ≤ fb_si f n ∧ fb_si f n ≤ n * c
  | 0, _ => by simp [fb_si]
  | n + 1, h => by
    have h1 := fb_si_bound (n := n) (f := f) hc (fun k hk => h k (by omega))
    have h2 := h n (by omega)
    have e : ((n + 1 : Nat) : Int) * c = n * c + c := by rw [Int.natCast_add, Int.add_mul]; simp
    rw [fb_si_succ, e]
    omega
/-! ===== bits of a long that isn't negative ===== -/
theorem fb_andL (a b : Nat) : lN a &&& lN b = lN (a &&& b) := by
  apply Int64.toBitVec_inj.1
  show BitVec.ofNat 64 a &&& BitVec.ofNat 64 b = BitVec.ofNat 64 (a &&& b)
  apply BitVec.eq_of_getLsbD_eq
  intro i hi
  simp [hi]
theorem fb_orL (a b : Nat) : lN a ||| lN b = lN (a ||| b) := by
  apply Int64.toBitVec_inj.1
  show BitVec.ofNat 64 a ||| BitVec.ofNat 64 b = BitVec.ofNat 64 (a ||| b)
  apply BitVec.eq_of_getLsbD_eq
  intro i hi
  simp [hi]
theorem fb_xorL (a b : Nat) : lN a ^^^ lN b = lN (a ^^^ b) := by
  apply Int64.toBitVec_inj.1
  show BitVec.ofNat 64 a ^^^ BitVec.ofNat 64 b = BitVec.ofNat 64 (a ^^^ b)
  apply BitVec.eq_of_getLsbD_eq
  intro i hi
  simp [hi]
theorem fb_xorI (a b : Nat) : nI a ^^^ nI b = nI (a ^^^ b) := by
  apply Int32.toBitVec_inj.1
  show BitVec.ofNat 32 a ^^^ BitVec.ofNat 32 b = BitVec.ofNat 32 (a ^^^ b)
  apply BitVec.eq_of_getLsbD_eq
  intro i hi
  simp [hi]
theorem fb_maskL (n k : Nat) : lN n &&& lN (2 ^ k - 1) = lN (n % 2 ^ k) := by rw [fb_andL, Nat.and_two_pow_sub_one_eq_mod]
theorem fb_or_sumL {a k : Nat} (b : Nat) (h : a < 2 ^ k) : lN (2 ^ k * b) ||| lN a = lN (2 ^ k * b + a) := by rw [fb_orL, Nat.two_pow_add_eq_or_of_lt h]
theorem fb_lN_inj {a b : Nat} (ha : a < 2 ^ 63) (hb : b < 2 ^ 63) : lN a = lN b ↔ a = b := by
  constructor
  · intro h
    have h1 : (BitVec.ofNat 64 a).toNat = (BitVec.ofNat 64 b).toNat := congrArg (fun x : Int64 => x.toBitVec.toNat) h
    rw [BitVec.toNat_ofNat, BitVec.toNat_ofNat, Nat.mod_eq_of_lt (by omega), Nat.mod_eq_of_lt (by omega)] at h1
    exact h1
  · rintro rfl; rfl
theorem fb_bit_nat (n j : Nat) : n &&& 2 ^ j = 0 ↔ n.testBit j = false := by
  constructor
  · intro h
    have h1 : (n &&& 2 ^ j).testBit j = false := by rw [h]; simp
    rw [Nat.testBit_and] at h1
    simpa using h1
  · intro h
    apply Nat.eq_of_testBit_eq
    intro i
    rw [Nat.testBit_and]
    by_cases hi : j = i
    · subst hi; simp [h]
    · first | (simp [Nat.testBit_two_pow, hi]; done) | (simp [Nat.testBit_two_pow_of_ne hi]; done)
/-- one bit of a long -/
theorem fb_bitL {n j : Nat} (hj : j < 63) : lN n &&& lN (2 ^ j) = 0 ↔ n.testBit j = false := by
  have h2 : (2 : Nat) ^ j < 2 ^ 63 := Nat.pow_lt_pow_right (by decide) hj
  have hle : n &&& 2 ^ j ≤ 2 ^ j := Nat.and_le_right
  rw [fb_andL, ← fb_bit_nat, show (0 : Int64) = lN 0 from rfl]
  exact fb_lN_inj (by omega) (by decide)
/-- a bit set, a bit taken off -/
theorem fb_bit_set (n j i : Nat) : (n ||| 2 ^ j).testBit i = (n.testBit i || decide (i = j)) := by
  rw [Nat.testBit_or]
  by_cases h : j = i
  · subst h; simp
  · have h2 : ¬ i = j := fun e => h e.symm
    first | (simp [Nat.testBit_two_pow, h, h2]; done) | (simp [Nat.testBit_two_pow_of_ne h, h2]; done)
theorem fb_bit_flip (n j i : Nat) : (n ^^^ 2 ^ j).testBit i = (n.testBit i ^^ decide (i = j)) := by
  rw [Nat.testBit_xor]
  by_cases h : j = i
  · subst h; simp
  · have h2 : ¬ i = j := fun e => h e.symm
    first | (simp [Nat.testBit_two_pow, h, h2]; done) | (simp [Nat.testBit_two_pow_of_ne h, h2]; done)
/-! ===== a stretch of an array written over by a function ===== -/
def fb_put {α : Type} (f g : Nat → α) (a n : Nat) : Nat → α := fun k => if a ≤ k ∧ k < a + n then g (k - a) else f k
theorem fb_put_0 {α : Type} (f g : Nat → α) (a : Nat) : fb_put f g a 0 = f := funext fun k => if_neg (by omega)
theorem fb_put_in {α : Type} {f g : Nat → α} {a n k : Nat} (h1 : a ≤ k) (h2 : k < a + n) : fb_put f g a n k = g (k - a) := if_pos ⟨h1, h2⟩
theorem fb_put_out {α : Type} {f g : Nat → α} {a n k : Nat} (h : k < a ∨ a + n ≤ k) : fb_put f g a n k = f k := if_neg (by omega)
theorem fb_put_succ (f g : Nat → Int32) (a n : Nat) : upd (fb_put f g a n) (a + n) (g n) = fb_put f g a (n + 1) := by
  funext k
  by_cases h : k = a + n
  · subst h
    simp [upd, fb_put]
  · by_cases h1 : a ≤ k ∧ k < a + n
    · have h2 : a ≤ k ∧ k < a + (n + 1) := by omega
      simp only [upd, fb_put, if_neg h, if_pos h1, if_pos h2]
    · have h2 : ¬ (a ≤ k ∧ k < a + (n + 1)) := by omega
      simp only [upd, fb_put, if_neg h, if_neg h1, if_neg h2]
/-- .. from the far end down -/
theorem fb_put_down (f g : Nat → Int32) {a n m : Nat} (h : m < n) : upd (fb_put f (fun k => g (k + (m + 1))) (a + (m + 1)) (n - (m + 1))) (a + m) (g m) = fb_put f (fun k => g (k + m)) (a + m) (n - m) := by
  funext k
  by_cases h0 : k = a + m
  · subst h0
    simp only [upd, if_true]
    rw [fb_put_in (by omega) (by omega)]
    exact congrArg g (by omega)
  · simp only [upd, if_neg h0]
    by_cases h1 : a + (m + 1) ≤ k ∧ k < a + (m + 1) + (n - (m + 1))
    · rw [fb_put_in h1.1 h1.2, fb_put_in (by omega) (by omega)]
      exact congrArg g (by omega)
    · rw [fb_put_out (by omega), fb_put_out (by omega)]
theorem fb_put_cong {α : Type} {f f2 g g2 : Nat → α} {a n : Nat} (hf : ∀ k, (k < a ∨ a + n ≤ k) → f k = f2 k) (hg : ∀ k, k < n → g k = g2 k) : fb_put f g a n = fb_put f2 g2 a n := by
  funext k
  by_cases h : a ≤ k ∧ k < a + n
  · rw [fb_put_in h.1 h.2, fb_put_in h.1 h.2, hg _ (by omega)]
  · rw [fb_put_out (by omega), fb_put_out (by omega), hf _ (by omega)]
/-! ===== the least, the first, the best so far; that there is one alone ===== -/
theorem fb_first {p : Nat → Prop} [DecidablePred p] : ∀ {n : Nat}, (∃ i, i < n ∧ p i) → ∃ i, i < n ∧ p i ∧ ∀ j, j < i → ¬ p j
  | 0, h => by obtain ⟨i, hi, -⟩ := h; exact absurd hi (Nat.not_lt_zero i)
  | n + 1, h => by
    by_cases q : ∃ i, i < n ∧ p i
    · obtain ⟨i, h1, h2⟩ := fb_first q
      exact ⟨i, by omega, h2⟩
    · obtain ⟨i, h1, h2⟩ := h
      have e : i = n := by
        rcases Nat.lt_or_ge i n with r | r
        · exact absurd ⟨i, r, h2⟩ q
        · omega
      subst e
      exact ⟨i, by omega, h2, fun j hj hp => q ⟨j, hj, hp⟩⟩
theorem fb_first_one {p : Nat → Prop} {i j : Nat} (hi : p i) (hi2 : ∀ k, k < i → ¬ p k) (hj : p j) (hj2 : ∀ k, k < j → ¬ p k) : i = j := by
  rcases Nat.lt_trichotomy i j with q | q | q
  · exact absurd hi (hj2 i q)
  · exact q
  · exact absurd hj (hi2 j q)
theorem fb_last {p : Nat → Prop} [DecidablePred p] : ∀ {n : Nat}, (∃ i, i < n ∧ p i) → ∃ i, i < n ∧ p i ∧ ∀ j, i < j → j < n → ¬ p j
  | 0, h => by obtain ⟨i, hi, -⟩ := h; exact absurd hi (Nat.not_lt_zero i)
  | n + 1, h => by
    by_cases q : p n
    · exact ⟨n, by omega, q, fun j h1 h2 => by omega⟩
    · obtain ⟨i, h1, h2⟩ := h
      have hi : i < n := by
        rcases Nat.lt_or_ge i n with r | r
        · exact r
        · have e : i = n := by omega
          subst e
          exact absurd h2 q
      obtain ⟨i2, a1, a2, a3⟩ := fb_last (n := n) ⟨i, hi, h2⟩
      refine ⟨i2, by omega, a2, fun j b1 b2 => ?_⟩
      rcases Nat.lt_or_ge j n with r | r
      · exact a3 j b1 r
      · have e : j = n := by omega
        subst e
        exact q
/-- the first greatest -/
theorem fb_best (f : Nat → Int) : ∀ {n : Nat}, 0 < n → ∃ i, i < n ∧ (∀ j, j < n → f j ≤ f i) ∧ ∀ j, j < i → f j < f i
  | 0, h => absurd h (Nat.lt_irrefl 0)
  | 1, _ => ⟨0, by omega, fun j hj => by have e : j = 0 := by omega
                                         subst e; exact Int.le_refl _, fun j hj => absurd hj (Nat.not_lt_zero j)⟩
  | n + 2, _ => by
    obtain ⟨i, h1, h2, h3⟩ := fb_best f (n := n + 1) (by omega)
    by_cases q : f i < f (n + 1)
    · refine ⟨n + 1, by omega, fun j hj => ?_, fun j hj => ?_⟩
      · rcases Nat.lt_or_ge j (n + 1) with r | r
        · have := h2 j r; omega
        · have e : j = n + 1 := by omega
          subst e; exact Int.le_refl _
      · have := h2 j hj; omega
    · refine ⟨i, by omega, fun j hj => ?_, h3⟩
      rcases Nat.lt_or_ge j (n + 1) with r | r
      · exact h2 j r
      · have e : j = n + 1 := by omega
        subst e; omega
theorem fb_best_one {f : Nat → Int} {n i j : Nat} (hi : i < n) (hi2 : ∀ k, k < n → f k ≤ f i) (hi3 : ∀ k, k < i → f k < f i) (hj : j < n) (hj2 : ∀ k, k < n → f k ≤ f j) (hj3 : ∀ k, k < j → f k < f j) : i = j := by
  rcases Nat.lt_trichotomy i j with q | q | q
  · have a := hj3 i q
    have b := hi2 j hj
    omega
  · exact q
  · have a := hi3 j q
    have b := hj2 i hi
    omega
/-- the first least -/
theorem fb_low (f : Nat → Int) {n : Nat} (h : 0 < n) : ∃ i, i < n ∧ (∀ j, j < n → f i ≤ f j) ∧ ∀ j, j < i → f i < f j := by
  obtain ⟨i, h1, h2, h3⟩ := fb_best (fun k => -f k) h
  exact ⟨i, h1, fun j hj => by have := h2 j hj; omega, fun j hj => by have := h3 j hj; omega⟩
/-! ===== signed ints as whole numbers, within bounds ===== -/
theorem fb_rng (x : Int32) : -2147483648 ≤ x.toInt ∧ x.toInt < 2147483648 := by
  have h1 := Int32.le_toInt x
  have h2 := Int32.toInt_lt x
  omega
theorem fb_bmod {z : Int} (h1 : -2147483648 ≤ z) (h2 : z < 2147483648) : z.bmod (2 ^ 32) = z := by
  rw [Int.bmod_eq_of_le (by omega) (by omega)]
theorem fb_addI {x y : Int32} (h1 : -2147483648 ≤ x.toInt + y.toInt) (h2 : x.toInt + y.toInt < 2147483648) : (x + y).toInt = x.toInt + y.toInt := by
  rw [Int32.toInt_add, fb_bmod h1 h2]
theorem fb_subI {x y : Int32} (h1 : -2147483648 ≤ x.toInt - y.toInt) (h2 : x.toInt - y.toInt < 2147483648) : (x - y).toInt = x.toInt - y.toInt := by
  rw [Int32.toInt_sub, fb_bmod h1 h2]
theorem fb_mulI {x y : Int32} (h1 : -2147483648 ≤ x.toInt * y.toInt) (h2 : x.toInt * y.toInt < 2147483648) : (x * y).toInt = x.toInt * y.toInt := by
  rw [Int32.toInt_mul, fb_bmod h1 h2]
theorem fb_negI {x : Int32} (h : x.toInt ≠ -2147483648) : (-x).toInt = -x.toInt := by
  have := fb_rng x
  rw [Int32.toInt_neg, fb_bmod (by omega) (by omega)]
theorem fb_ofI {z : Int} (h1 : -2147483648 ≤ z) (h2 : z < 2147483648) : (Int32.ofInt z).toInt = z := by
  rw [Int32.toInt_ofInt, fb_bmod h1 h2]
theorem fb_asI (x : Int32) : Int32.ofInt x.toInt = x := Int32.ofInt_toInt x
theorem fb_rngL (x : Int64) : -9223372036854775808 ≤ x.toInt ∧ x.toInt < 9223372036854775808 := by
  have h1 := Int64.le_toInt x
  have h2 := Int64.toInt_lt x
  omega
theorem fb_bmodL {z : Int} (h1 : -9223372036854775808 ≤ z) (h2 : z < 9223372036854775808) : z.bmod (2 ^ 64) = z := by
  rw [Int.bmod_eq_of_le (by omega) (by omega)]
theorem fb_addL {x y : Int64} (h1 : -9223372036854775808 ≤ x.toInt + y.toInt) (h2 : x.toInt + y.toInt < 9223372036854775808) : (x + y).toInt = x.toInt + y.toInt := by
  rw [Int64.toInt_add, fb_bmodL h1 h2]
theorem fb_subL {x y : Int64} (h1 : -9223372036854775808 ≤ x.toInt - y.toInt) (h2 : x.toInt - y.toInt < 9223372036854775808) : (x - y).toInt = x.toInt - y.toInt := by
  rw [Int64.toInt_sub, fb_bmodL h1 h2]
theorem fb_mulL {x y : Int64} (h1 : -9223372036854775808 ≤ x.toInt * y.toInt) (h2 : x.toInt * y.toInt < 9223372036854775808) : (x * y).toInt = x.toInt * y.toInt := by
  rw [Int64.toInt_mul, fb_bmodL h1 h2]
/-! ===== cuts of what is narrow already ===== -/
theorem fb_byte {x : Int32} (h1 : -128 ≤ x.toInt) (h2 : x.toInt < 128) : x.toInt8.toInt32 = x := by
  apply Int32.toInt_inj.1
  rw [Int8.toInt_toInt32, Int32.toInt_toInt8, Int.bmod_eq_of_le (by omega) (by omega)]
theorem fb_short {x : Int32} (h1 : -32768 ≤ x.toInt) (h2 : x.toInt < 32768) : x.toInt16.toInt32 = x := by
  apply Int32.toInt_inj.1
  rw [Int16.toInt_toInt32, Int32.toInt_toInt16, Int.bmod_eq_of_le (by omega) (by omega)]
theorem fb_byte_rng (x : Int32) : -128 ≤ x.toInt8.toInt32.toInt ∧ x.toInt8.toInt32.toInt < 128 := by
  rw [Int8.toInt_toInt32]
  have h1 := Int8.le_toInt x.toInt8
  have h2 := Int8.toInt_lt x.toInt8
  omega
theorem fb_short_rng (x : Int32) : -32768 ≤ x.toInt16.toInt32.toInt ∧ x.toInt16.toInt32.toInt < 32768 := by
  rw [Int16.toInt_toInt32]
  have h1 := Int16.le_toInt x.toInt16
  have h2 := Int16.toInt_lt x.toInt16
  omega
theorem fb_byte_twice (x : Int32) : x.toInt8.toInt32.toInt8.toInt32 = x.toInt8.toInt32 := fb_byte (fb_byte_rng x).1 (fb_byte_rng x).2
theorem fb_short_twice (x : Int32) : x.toInt16.toInt32.toInt16.toInt32 = x.toInt16.toInt32 := fb_short (fb_short_rng x).1 (fb_short_rng x).2
theorem fb_char {n : Nat} (h : n < 65536) : (nI n).toUInt32.toUInt16.toUInt32.toInt32 = nI n := by
  apply Int32.toBitVec_inj.1
  apply BitVec.eq_of_toNat_eq
  have e1 : (nI n).toBitVec.toNat = n := by
    show (BitVec.ofNat 32 n).toNat = n
    rw [BitVec.toNat_ofNat, Nat.mod_eq_of_lt (by omega)]
  have e2 : ((nI n).toUInt32.toUInt16.toUInt32).toNat = n := by
    rw [UInt16.toNat_toUInt32, UInt32.toNat_toUInt16]
    show (nI n).toBitVec.toNat % 2 ^ 16 = n
    rw [e1, Nat.mod_eq_of_lt (by omega)]
  rw [e1]
  exact e2
end
section
/-! plain facts on numbers and arrays, to paste: each family by itself; over the kit's rows on nI and upd -/
/-! ===== order of ints, in all its forms, and through longs ===== -/
theorem fa_lt (a b : Int32) : a < b ↔ a.toInt < b.toInt := Int32.lt_iff_toInt_lt
theorem fa_le (a b : Int32) : a ≤ b ↔ a.toInt ≤ b.toInt := Int32.le_iff_toInt_le
theorem fa_eq (a b : Int32) : a = b ↔ a.toInt = b.toInt := Int32.toInt_inj.symm
theorem fa_lt64 (a b : Int64) : a < b ↔ a.toInt < b.toInt := Int64.lt_iff_toInt_lt
theorem fa_le64 (a b : Int64) : a ≤ b ↔ a.toInt ≤ b.toInt := Int64.le_iff_toInt_le
theorem fa_eq64 (a b : Int64) : a = b ↔ a.toInt = b.toInt := Int64.toInt_inj.symm
/-- a comparison of two ints taken as longs -/
theorem fa_wide_lt (a b : Int32) : a.toInt64 < b.toInt64 ↔ a < b := by rw [fa_lt64, fa_lt, Int32.toInt_toInt64, Int32.toInt_toInt64]
theorem fa_wide_le (a b : Int32) : a.toInt64 ≤ b.toInt64 ↔ a ≤ b := by rw [fa_le64, fa_le, Int32.toInt_toInt64, Int32.toInt_toInt64]
theorem fa_wide_eq (a b : Int32) : a.toInt64 = b.toInt64 ↔ a = b := by rw [fa_eq64, fa_eq, Int32.toInt_toInt64, Int32.toInt_toInt64]
/-- one strict comparison gives all the others -/
theorem fa_of_lt {a b : Int32} (h : a < b) : a ≤ b ∧ ¬ b ≤ a ∧ ¬ b < a ∧ a ≠ b ∧ b ≠ a := by
  rw [fa_lt] at h
  refine ⟨?_, ?_, ?_, ?_, ?_⟩
  · rw [fa_le]; omega
  · rw [fa_le]; omega
  · rw [fa_lt]; omega
  · intro e; rw [fa_eq] at e; omega
  · intro e; rw [fa_eq] at e; omega
theorem fa_of_nlt {a b : Int32} (h : ¬ a < b) : b ≤ a := by
  rw [fa_lt] at h
  rw [fa_le]
  omega
theorem fa_of_nle {a b : Int32} (h : ¬ a ≤ b) : b < a := by
  rw [fa_le] at h
  rw [fa_lt]
  omega
theorem fa_le_ne {a b : Int32} (h : a ≤ b) (h2 : a ≠ b) : a < b := by
  rw [fa_le] at h
  rw [fa_lt]
  have h3 : a.toInt ≠ b.toInt := fun e => h2 ((fa_eq a b).mpr e)
  omega
theorem fa_three (a b : Int32) : a < b ∨ a = b ∨ b < a := by
  rw [fa_lt, fa_lt, fa_eq]
  omega
theorem fa_trans {a b c : Int32} (h : a < b) (h2 : b ≤ c) : a < c := by
  rw [fa_lt] at *
  rw [fa_le] at h2
  omega
/-! ===== small literals as numbers ===== -/
theorem fa_lit (n : Nat) : (OfNat.ofNat n : Int32) = nI n := rfl
theorem fa_litL (n : Nat) : (OfNat.ofNat n : Int64) = lN n := rfl
/-! ===== bits of a number: 'or', masks, one bit ===== -/
theorem fa_and (a b : Nat) : nI a &&& nI b = nI (a &&& b) := by
  apply Int32.toBitVec_inj.1
  show BitVec.ofNat 32 a &&& BitVec.ofNat 32 b = BitVec.ofNat 32 (a &&& b)
  apply BitVec.eq_of_getLsbD_eq
  intro i hi
  simp [hi]
theorem fa_or (a b : Nat) : nI a ||| nI b = nI (a ||| b) := by
  apply Int32.toBitVec_inj.1
  show BitVec.ofNat 32 a ||| BitVec.ofNat 32 b = BitVec.ofNat 32 (a ||| b)
  apply BitVec.eq_of_getLsbD_eq
  intro i hi
  simp [hi]
/-- a remainder by a power of two, as a mask -/
theorem fa_mask (n k : Nat) : nI n &&& nI (2 ^ k - 1) = nI (n % 2 ^ k) := by rw [fa_and, Nat.and_two_pow_sub_one_eq_mod]
/-- 'or' of a high part and a low one that don't meet is their sum -/
theorem fa_or_sum {a k : Nat} (b : Nat) (h : a < 2 ^ k) : nI (2 ^ k * b) ||| nI a = nI (2 ^ k * b + a) := by rw [fa_or, Nat.two_pow_add_eq_or_of_lt h]
/-- one bit, by 'and' with a power of two -/
theorem fa_bit {n j : Nat} (hj : j < 31) : nI n &&& nI (2 ^ j) = 0 ↔ n.testBit j = false := by
  have h2 : (2 : Nat) ^ j < 2 ^ 31 := Nat.pow_lt_pow_right (by decide) hj
  have hle : n &&& 2 ^ j ≤ 2 ^ j := Nat.and_le_right
  have e : n &&& 2 ^ j = 0 ↔ n.testBit j = false := by
    constructor
    · intro h
      have h1 : (n &&& 2 ^ j).testBit j = false := by rw [h]; simp
      rw [Nat.testBit_and] at h1
      first | simpa using h1 | simpa [Nat.testBit_two_pow_self] using h1 | simpa [Nat.testBit_two_pow] using h1
    · intro h
      apply Nat.eq_of_testBit_eq
      intro i
      rw [Nat.testBit_and]
      by_cases hi : j = i
      · subst hi; simp [h]
      · first | (simp [Nat.testBit_two_pow, hi]; done) | (simp [Nat.testBit_two_pow_of_ne hi]; done)
  rw [fa_and]
  constructor
  · intro h
    apply e.mp
    rcases Nat.eq_zero_or_pos (n &&& 2 ^ j) with z | z
    · exact z
    · exact absurd h (nI_ne0 z (Nat.lt_of_le_of_lt hle h2))
  · intro h
    rw [e.mpr h]; exact nI_0
/-- a remainder by a power of two of a number that isn't negative, as Java divides -/
theorem fa_rem {a k : Nat} (ha : a < 2 ^ 31) (hk : k < 31) : nI a - nI a / nI (2 ^ k) * nI (2 ^ k) = nI (a % 2 ^ k) := pk_rem ha (Nat.two_pow_pos k) (Nat.pow_lt_pow_right (by decide) hk)
/-! ===== cuts to a byte, a short ===== -/
theorem fa_byte_xor (x y : Int32) : (x ^^^ y).toInt8 = x.toInt8 ^^^ y.toInt8 := by
  apply Int8.toBitVec_inj.1
  apply BitVec.eq_of_getLsbD_eq
  intro i hi
  first | (simp [hi]; done) | (simp [hi, BitVec.getLsbD_setWidth, BitVec.getLsbD_signExtend]; done)
theorem fa_short_xor (x y : Int32) : (x ^^^ y).toInt16 = x.toInt16 ^^^ y.toInt16 := by
  apply Int16.toBitVec_inj.1
  apply BitVec.eq_of_getLsbD_eq
  intro i hi
  first | (simp [hi]; done) | (simp [hi, BitVec.getLsbD_setWidth, BitVec.getLsbD_signExtend]; done)
/-- the cut to a byte sees the low byte alone -/
theorem fa_byte_low (x : Int32) : (x &&& 255).toInt8 = x.toInt8 := by
  apply Int8.toBitVec_inj.1
  apply BitVec.eq_of_getLsbD_eq
  intro i hi
  have h2 : (255 : Int32).toBitVec.getLsbD i = true := by
    have : ∀ j : Fin 8, (255 : Int32).toBitVec.getLsbD j.val = true := by decide +kernel
    exact this ⟨i, hi⟩
  have h4 : (x &&& 255).toBitVec.getLsbD i = x.toBitVec.getLsbD i := by
    show (x.toBitVec &&& (255 : Int32).toBitVec).getLsbD i = _
    rw [BitVec.getLsbD_and, h2, Bool.and_true]
  have h3 : i < 32 := by omega
  first
    | (show (((x &&& 255).toBitVec).signExtend 8).getLsbD i = (x.toBitVec.signExtend 8).getLsbD i; rw [BitVec.getLsbD_signExtend, BitVec.getLsbD_signExtend, if_pos h3, if_pos h3, h4])
    | (show (((x &&& 255).toBitVec).setWidth 8).getLsbD i = (x.toBitVec.setWidth 8).getLsbD i; rw [BitVec.getLsbD_setWidth, BitVec.getLsbD_setWidth, h4])
    | (simp [hi, h3, h4]; done)
theorem fa_short_low (x : Int32) : (x &&& 65535).toInt16 = x.toInt16 := by
  apply Int16.toBitVec_inj.1
  apply BitVec.eq_of_getLsbD_eq
  intro i hi
  have h2 : (65535 : Int32).toBitVec.getLsbD i = true := by
    have : ∀ j : Fin 16, (65535 : Int32).toBitVec.getLsbD j.val = true := by decide +kernel
    exact this ⟨i, hi⟩
  have h4 : (x &&& 65535).toBitVec.getLsbD i = x.toBitVec.getLsbD i := by
    show (x.toBitVec &&& (65535 : Int32).toBitVec).getLsbD i = _
    rw [BitVec.getLsbD_and, h2, Bool.and_true]
  have h3 : i < 32 := by omega
  first
    | (show (((x &&& 65535).toBitVec).signExtend 16).getLsbD i = (x.toBitVec.signExtend 16).getLsbD i; rw [BitVec.getLsbD_signExtend, BitVec.getLsbD_signExtend, if_pos h3, if_pos h3, h4])
    | (show (((x &&& 65535).toBitVec).setWidth 16).getLsbD i = (x.toBitVec.setWidth 16).getLsbD i; rw [BitVec.getLsbD_setWidth, BitVec.getLsbD_setWidth, h4])
    | (simp [hi, h3, h4]; done)
/-- a small number is its own byte, its own short -/
theorem fa_byte_small {n : Nat} (h : n < 128) : (nI n).toInt8.toInt32 = nI n := by
  have : ∀ j : Fin 128, (nI j.val).toInt8.toInt32 = nI j.val := by decide +kernel
  exact this ⟨n, h⟩
/-! ===== absolute difference ===== -/
theorem fa_absdiff {a b : Nat} (ha : a < 2 ^ 31) (hb : b < 2 ^ 31) : (if nI a < nI b then nI b - nI a else nI a - nI b) = nI (if a < b then b - a else a - b) := by
  by_cases h : a < b
  · rw [if_pos (nI_lt h hb), if_pos h]
    exact pk_sub (Nat.le_of_lt h)
  · rw [if_neg (nI_nlt (Nat.le_of_not_lt h) ha), if_neg h]
    exact pk_sub (Nat.le_of_not_lt h)
/-! ===== an array behind i stores, a conditional store, a row copied ===== -/
/-- f where k < i, what stood there else -/
def fa_fill {α : Type} (f g : Nat → α) (i : Nat) : Nat → α := fun k => if k < i then f k else g k
theorem fa_fill_0 {α : Type} (f g : Nat → α) : fa_fill f g 0 = g := funext fun k => if_neg (Nat.not_lt_zero k)
theorem fa_fill_in {α : Type} {f g : Nat → α} {i k : Nat} (h : k < i) : fa_fill f g i k = f k := if_pos h
theorem fa_fill_out {α : Type} {f g : Nat → α} {i k : Nat} (h : i ≤ k) : fa_fill f g i k = g k := if_neg (Nat.not_lt.mpr h)
theorem fa_fill_succ (f g : Nat → Int32) (i : Nat) : upd (fa_fill f g i) i (f i) = fa_fill f g (i + 1) := by
  funext k
  by_cases e : k = i
  · subst e
    rw [pk_us]
    exact (if_pos (Nat.lt_succ_self k)).symm
  · rw [pk_un e]
    by_cases h : k < i
    · rw [fa_fill_in h, fa_fill_in (Nat.lt_succ_of_lt h)]
    · rw [fa_fill_out (Nat.le_of_not_lt h), fa_fill_out (by omega)]
/-- a store that changes nothing -/
theorem fa_upd_same {f : Nat → Int32} {i : Nat} {x : Int32} (h : f i = x) : upd f i x = f := by
  funext k
  by_cases e : k = i
  · subst e
    rw [pk_us, h]
  · rw [pk_un e]
/-- a store under a condition, told as one -/
theorem fa_upd_if (c : Prop) [Decidable c] (f : Nat → Int32) (i : Nat) (x : Int32) : (if c then upd f i x else f) = upd f i (if c then x else f i) := by
  by_cases h : c
  · rw [if_pos h, if_pos h]
  · rw [if_neg h, if_neg h, fa_upd_same rfl]
/-- two stores at one place, at two -/
theorem fa_upd_twice (f : Nat → Int32) (i : Nat) (x y : Int32) : upd (upd f i x) i y = upd f i y := by
  funext k
  by_cases e : k = i
  · subst e
    rw [pk_us, pk_us]
  · rw [pk_un e, pk_un e, pk_un e]
theorem fa_upd_swap (f : Nat → Int32) {i j : Nat} (h : i ≠ j) (x y : Int32) : upd (upd f i x) j y = upd (upd f j y) i x := by
  funext k
  by_cases e : k = i
  · subst e
    rw [pk_un h, pk_us, pk_us]
  · by_cases e2 : k = j
    · subst e2
      rw [pk_us, pk_un e, pk_us]
    · rw [pk_un e2, pk_un e, pk_un e, pk_un e2]
/-! ===== the first index with a property; a count ===== -/
/-- the first k < n with p k, n if there is none -/
def fa_first (p : Nat → Bool) : Nat → Nat
  | 0 => 0
  | n + 1 => if fa_first p n < n then fa_first p n else if p n then n else n + 1
theorem fa_first_le (p : Nat → Bool) : ∀ n, fa_first p n ≤ n
  | 0 => Nat.le_refl 0
  | n + 1 => by
    have ih := fa_first_le p n
    unfold fa_first
    split
    · omega
    · split
      · omega
      · omega
theorem fa_first_no (p : Nat → Bool) : ∀ n k, k < fa_first p n → p k = false
  | 0, k, h => absurd h (Nat.not_lt_zero k)
  | n + 1, k, h => by
    have ih := fa_first_no p n
    have hl := fa_first_le p n
    unfold fa_first at h
    split at h
    · exact ih k h
    · rename_i h1
      split at h
      · exact ih k (by omega)
      · rename_i h2
        by_cases e : k = n
        · subst e
          exact Bool.eq_false_iff.mpr h2
        · exact ih k (by omega)
theorem fa_first_yes (p : Nat → Bool) : ∀ n, fa_first p n < n → p (fa_first p n) = true
  | 0, h => absurd h (Nat.not_lt_zero _)
  | n + 1, h => by
    have ih := fa_first_yes p n
    have hl := fa_first_le p n
    unfold fa_first at h ⊢
    split at h
    · rename_i h1
      rw [if_pos h1]
      exact ih h1
    · rename_i h1
      rw [if_neg h1]
      split at h
      · rename_i h2
        rw [if_pos h2]
        exact h2
      · omega
/-- how many k < n have p k -/
def fa_cnt (p : Nat → Bool) : Nat → Nat
  | 0 => 0
  | n + 1 => fa_cnt p n + if p n then 1 else 0
theorem fa_cnt_le (p : Nat → Bool) : ∀ n, fa_cnt p n ≤ n
  | 0 => Nat.le_refl 0
  | n + 1 => by
    have ih := fa_cnt_le p n
    unfold fa_cnt
    split
    · omega
    · omega
theorem fa_cnt_yes {p : Nat → Bool} {n : Nat} (h : p n = true) : fa_cnt p (n + 1) = fa_cnt p n + 1 := by rw [fa_cnt, if_pos h]
theorem fa_cnt_no {p : Nat → Bool} {n : Nat} (h : p n = false) : fa_cnt p (n + 1) = fa_cnt p n := by rw [fa_cnt, if_neg (by rw [h]; decide)]; rfl
theorem fa_cnt_cong {p q : Nat → Bool} : ∀ {n : Nat}, (∀ k, k < n → p k = q k) → fa_cnt p n = fa_cnt q n
  | 0, _ => rfl
  | n + 1, h => by rw [fa_cnt, fa_cnt, fa_cnt_cong (fun k hk => h k (Nat.lt_succ_of_lt hk)), h n (Nat.lt_succ_self n)]
/-! ===== an answer carried into a post; a branch on a boolean answer ===== -/
theorem fa_post {α : Type} {P : α → Prop} {x y : α} (h : x = y) (hp : P y) : P x := h ▸ hp
theorem fa_post2 {α β : Type} {P : α → β → Prop} {x y : α} {u v : β} (h : x = y) (h2 : u = v) (hp : P y v) : P x u := h ▸ h2 ▸ hp
theorem fa_bool {r : Int32} {b : Bool} (h : r = if b then 1 else 0) : (r = 0 ↔ b = false) ∧ (¬ r = 0 ↔ b = true) := by
  subst h
  cases b
  · exact ⟨⟨fun _ => rfl, fun _ => rfl⟩, ⟨fun h => absurd rfl h, fun h => absurd h (by decide)⟩⟩
  · exact ⟨⟨fun h => absurd h (by decide), fun h => absurd h (by decide)⟩, ⟨fun _ => rfl, fun _ => by decide⟩⟩
/-- a boolean's narrowing changes nothing -/
theorem fa_bool_and {r : Int32} (h : r = 0 ∨ r = 1) : r &&& 1 = r := by
  rcases h with rfl | rfl
  · decide
  · decide
theorem fa_bool_prop {c : Prop} [Decidable c] {r : Int32} (h : r = if c then 1 else 0) : (r = 0 ↔ ¬ c) ∧ (¬ r = 0 ↔ c) := by
  subst h
  by_cases hc : c
  · rw [if_pos hc]
    exact ⟨⟨fun h => absurd h (by decide), fun h => absurd hc h⟩, ⟨fun _ => hc, fun _ => by decide⟩⟩
  · rw [if_neg hc]
    exact ⟨⟨fun _ => hc, fun _ => rfl⟩, ⟨fun h => absurd rfl h, fun h => absurd h hc⟩⟩
end
section
/-! THE BOARD'S TABLES as plain numbers: edges, points, areas of a board of w by h cells -/
def tb_W (w h : Nat) : Prop := 1 ≤ w ∧ w ≤ 4 ∧ 1 ≤ h ∧ h ≤ 4
def tb_nc (w h : Nat) : Nat := w * h
def tb_np (w h : Nat) : Nat := (w + 1) * (h + 1)
def tb_nf (w h : Nat) : Nat := (h + 1) * w
def tb_ne (w h : Nat) : Nat := (h + 1) * w + h * (w + 1)
def tb_row (w h e : Nat) : Nat := if e < tb_nf w h then e / w else (e - tb_nf w h) / (w + 1)
def tb_col (w h e : Nat) : Nat := if e < tb_nf w h then e % w else (e - tb_nf w h) % (w + 1)
def tb_one (w h e : Nat) : Nat := tb_row w h e * (w + 1) + tb_col w h e
def tb_oth (w h e : Nat) : Nat := if e < tb_nf w h then tb_one w h e + 1 else tb_one w h e + w + 1
def tb_are (w h e : Nat) : Nat := if e < tb_nf w h then (if 0 < tb_row w h e then (tb_row w h e - 1) * w + tb_col w h e else tb_nc w h) else (if 0 < tb_col w h e then tb_row w h e * w + (tb_col w h e - 1) else tb_nc w h)
def tb_bes (w h e : Nat) : Nat := if e < tb_nf w h then (if tb_row w h e < h then tb_row w h e * w + tb_col w h e else tb_nc w h) else (if tb_col w h e < w then tb_row w h e * w + tb_col w h e else tb_nc w h)
def tb_sid (w h c s : Nat) : Nat := if s = 0 then c else if s = 1 then c + w else if s = 2 then tb_nf w h + (c / w * (w + 1) + c % w) else tb_nf w h + (c / w * (w + 1) + c % w) + 1
/-- a fact of all sixteen boards, by the kernel -/
theorem tb_all {P : Nat → Nat → Prop} [∀ w h, Decidable (P w h)] (H : ([1, 2, 3, 4] : List Nat).all (fun w => ([1, 2, 3, 4] : List Nat).all (fun h => decide (P w h))) = true) {w h : Nat} (hW : tb_W w h) : P w h := by
  obtain ⟨h1, h2, h3, h4⟩ := hW
  have hw : w ∈ ([1, 2, 3, 4] : List Nat) := by simp; omega
  have hh : h ∈ ([1, 2, 3, 4] : List Nat) := by simp; omega
  exact of_decide_eq_true (List.all_eq_true.mp (List.all_eq_true.mp H w hw) h hh)
theorem tb_sizes {w h : Nat} (hW : tb_W w h) : (1 ≤ tb_nc w h ∧ tb_nc w h ≤ 16 ∧ 4 ≤ tb_np w h ∧ tb_np w h ≤ 25 ∧ 4 ≤ tb_ne w h ∧ tb_ne w h ≤ 40 ∧ tb_nf w h ≤ 20 ∧ tb_nf w h < tb_ne w h) :=
  tb_all (P := fun w h => 1 ≤ tb_nc w h ∧ tb_nc w h ≤ 16 ∧ 4 ≤ tb_np w h ∧ tb_np w h ≤ 25 ∧ 4 ≤ tb_ne w h ∧ tb_ne w h ≤ 40 ∧ tb_nf w h ≤ 20 ∧ tb_nf w h < tb_ne w h) (by decide +kernel) hW
theorem tb_ends {w h : Nat} (hW : tb_W w h) : ∀ e, e < tb_ne w h → tb_one w h e < tb_np w h ∧ tb_oth w h e < tb_np w h ∧ tb_one w h e ≠ tb_oth w h e ∧ tb_are w h e ≤ tb_nc w h ∧ tb_bes w h e ≤ tb_nc w h :=
  tb_all (P := fun w h => ∀ e, e < tb_ne w h → tb_one w h e < tb_np w h ∧ tb_oth w h e < tb_np w h ∧ tb_one w h e ≠ tb_oth w h e ∧ tb_are w h e ≤ tb_nc w h ∧ tb_bes w h e ≤ tb_nc w h) (by decide +kernel) hW
theorem tb_sides {w h : Nat} (hW : tb_W w h) : ∀ c, c < tb_nc w h → ∀ s, s < 4 → tb_sid w h c s < tb_ne w h :=
  tb_all (P := fun w h => ∀ c, c < tb_nc w h → ∀ s, s < 4 → tb_sid w h c s < tb_ne w h) (by decide +kernel) hW
/-! the reference's record X: its tables, its edges' states, its marks, its numbers -/
def rf_T (w h : Nat) (X : xs_T) : Prop := tb_W w h ∧ X.1 21 0 = nI w ∧ X.1 21 1 = nI h ∧ X.1 21 2 = nI (tb_nc w h) ∧ X.1 21 3 = nI (tb_ne w h) ∧ X.1 21 4 = nI (tb_np w h) ∧
  (∀ e, e < tb_ne w h → X.2.2.1 22 e = nI (tb_one w h e)) ∧ (∀ e, e < tb_ne w h → X.2.2.1 23 e = nI (tb_oth w h e)) ∧ (∀ e, e < tb_ne w h → X.2.2.1 24 e = nI (tb_are w h e)) ∧ (∀ e, e < tb_ne w h → X.2.2.1 25 e = nI (tb_bes w h e)) ∧
  (∀ c, c < tb_nc w h → ∀ s, s < 4 → X.2.2.1 26 (4 * c + s) = nI (tb_sid w h c s))
def rf_S (w h : Nat) (st : Nat → Nat) (X : xs_T) : Prop := ∀ e, e < tb_ne w h → X.2.2.1 29 e = nI (st e) ∧ st e ≤ 2
theorem xs_rd {f : Nat → Int32} {e : Nat} {v : Int32} (h : f e = v) (he : e < 2 ^ 31) : f (nI e).toNatClampNeg = v := by rw [nI_clamp he]; exact h
theorem xs_rdL {f : Nat → Int64} {e : Nat} {v : Int64} (h : f e = v) (he : e < 2 ^ 31) : f (nI e).toNatClampNeg = v := by rw [nI_clamp he]; exact h
/-! counts of edges -/
def tb_atB (w h : Nat) (st : Nat → Nat) (p how e : Nat) : Bool := (tb_one w h e == p || tb_oth w h e == p) && st e == how
def tb_at (w h : Nat) (st : Nat → Nat) (p how : Nat) : Nat := fb_ct (tb_atB w h st p how) (tb_ne w h)
def tb_ar (w h : Nat) (st : Nat → Nat) (c how : Nat) : Nat := fb_ct (fun s => st (tb_sid w h c s) == how) 4
def tb_cnt (w h : Nat) (st : Nat → Nat) (how : Nat) : Nat := fb_ct (fun e => st e == how) (tb_ne w h)
theorem tb_at_le {w h : Nat} (hW : tb_W w h) (st : Nat → Nat) (p how : Nat) : tb_at w h st p how ≤ 40 := Nat.le_trans (fb_ct_le _ _) (tb_sizes hW).2.2.2.2.2.1
theorem tb_ar_le (w h : Nat) (st : Nat → Nat) (c how : Nat) : tb_ar w h st c how ≤ 4 := fb_ct_le _ _
end
section
/-! what the reference finds of a state's lines: labels, ways, loops -/
theorem rf_fr {w h : Nat} {S : List Nat} {F : List (Nat × Nat)} {X Y : xs_T} (hT : rf_T w h X) (hf : xs_fr S F X Y) (hq : (([22, 23, 24, 25, 26] : List Nat).all (fun q => !decide (q ∈ S)) && ([(21, 0), (21, 1), (21, 2), (21, 3), (21, 4)] : List (Nat × Nat)).all (fun q => !decide (q ∈ F))) = true := by decide) : rf_T w h Y := by
  simp only [List.all_cons, List.all_nil, Bool.and_true, Bool.and_eq_true, Bool.not_eq_true', decide_eq_false_iff_not] at hq
  obtain ⟨⟨a1, a2, a3, a4, a5⟩, b1, b2, b3, b4, b5⟩ := hq
  obtain ⟨h0, h1, h2, h3, h4, h5, h6, h7, h8, h9, h10⟩ := hT
  exact ⟨h0, (hf.1 _ _ b1).1.trans h1, (hf.1 _ _ b2).1.trans h2, (hf.1 _ _ b3).1.trans h3, (hf.1 _ _ b4).1.trans h4, (hf.1 _ _ b5).1.trans h5, by rw [(hf.2 _ a1).1]; exact h6, by rw [(hf.2 _ a2).1]; exact h7, by rw [(hf.2 _ a3).1]; exact h8, by rw [(hf.2 _ a4).1]; exact h9, by rw [(hf.2 _ a5).1]; exact h10⟩
theorem rf_sfr {w h : Nat} {st : Nat → Nat} {S : List Nat} {F : List (Nat × Nat)} {X Y : xs_T} (hS : rf_S w h st X) (hf : xs_fr S F X Y) (hq : decide (29 ∈ S) = false := by decide) : rf_S w h st Y := by
  intro e he
  rw [xs_fa hf 29 hq]
  exact hS e he
def rf_N (w h : Nat) (num : Nat → Int32) (X : xs_T) : Prop := ∀ c, c < tb_nc w h → X.2.2.1 27 c = num c
theorem rf_nfr {w h : Nat} {num : Nat → Int32} {S : List Nat} {F : List (Nat × Nat)} {X Y : xs_T} (hS : rf_N w h num X) (hf : xs_fr S F X Y) (hq : decide (27 ∈ S) = false := by decide) : rf_N w h num Y := by
  intro e he
  rw [xs_fa hf 27 hq]
  exact hS e he
/-- the labels of the points, behind the first k edges: S tells the lines -/
def tb_lab (w h : Nat) (S : Nat → Bool) : Nat → Nat → Nat
  | 0, p => p
  | k + 1, p =>
    let a := tb_lab w h S k (tb_one w h k)
    let b := tb_lab w h S k (tb_oth w h k)
    if S k = true ∧ a ≠ b then (if tb_lab w h S k p = (if a < b then b else a) then (if a < b then a else b) else tb_lab w h S k p) else tb_lab w h S k p
theorem tb_lab_le (w h : Nat) (S : Nat → Bool) : ∀ k p, tb_lab w h S k p ≤ p
  | 0, p => Nat.le_refl _
  | k + 1, p => by
    have h1 := tb_lab_le w h S k p
    rw [tb_lab]
    repeat' split
    all_goals omega
def tb_L (w h : Nat) (S : Nat → Bool) (p : Nat) : Nat := tb_lab w h S (tb_ne w h) p
def rf_L (w h : Nat) (S : Nat → Bool) (X : xs_T) : Prop := ∀ p, p < tb_np w h → X.2.2.1 34 p = nI (tb_L w h S p)
theorem rf_lfr {w h : Nat} {S' : Nat → Bool} {S : List Nat} {F : List (Nat × Nat)} {X Y : xs_T} (hS : rf_L w h S' X) (hf : xs_fr S F X Y) (hq : decide (34 ∈ S) = false := by decide) : rf_L w h S' Y := by
  intro e he
  rw [xs_fa hf 34 hq]
  exact hS e he
def tb_isL (st : Nat → Nat) (e : Nat) : Bool := st e == 1
def tb_deg (w h : Nat) (st : Nat → Nat) (p : Nat) : Nat := tb_at w h st p 1
def tb_wayB (w h : Nat) (st : Nat → Nat) (p : Nat) : Bool := tb_L w h (tb_isL st) p == p && decide (0 < tb_deg w h st p)
def tb_ways (w h : Nat) (st : Nat → Nat) : Nat := fb_ct (tb_wayB w h st) (tb_np w h)
def tb_isLoop (w h : Nat) (st : Nat → Nat) : Bool := (List.range (tb_np w h)).all (fun p => tb_deg w h st p == 0 || tb_deg w h st p == 2) && tb_ways w h st == 1
def tb_closed (w h : Nat) (st : Nat → Nat) (p : Nat) : Bool := tb_wayB w h st p && (List.range (tb_np w h)).all (fun q => !(tb_L w h (tb_isL st) q == p) || tb_deg w h st q == 2)
def tb_hasLoop (w h : Nat) (st : Nat → Nat) : Bool := (List.range (tb_np w h)).any (tb_closed w h st)
def tb_rightB (w h : Nat) (num : Nat → Int32) (st : Nat → Nat) (c : Nat) : Bool := num c == -1 || nI (tb_ar w h st c 1) == num c
def tb_right (w h : Nat) (num : Nat → Int32) (st : Nat → Nat) : Bool := (List.range (tb_nc w h)).all (tb_rightB w h num st)
theorem tb_L_lt {w h : Nat} {S : Nat → Bool} {p : Nat} (hp : p < tb_np w h) : tb_L w h S p < tb_np w h := Nat.lt_of_le_of_lt (tb_lab_le w h S _ p) hp
def tb_b (b : Bool) : Int32 := if b then 1 else 0
theorem tb_b_t {b : Bool} (h : b = true) : (1 : Int32) = tb_b b := by rw [h]; rfl
theorem tb_b_f {b : Bool} (h : b = false) : (0 : Int32) = tb_b b := by rw [h]; rfl
theorem tb_b0 {b : Bool} : tb_b b = 0 ↔ b = false := by cases b <;> decide
theorem tb_b1 {b : Bool} : ¬ tb_b b = 0 ↔ b = true := by cases b <;> decide
theorem tb_vt {b : Bool} (h : b = true) : some (Value.int 1) = some (Value.int (tb_b b)) := by rw [h]; rfl
theorem tb_vf {b : Bool} (h : b = false) : some (Value.int 0) = some (Value.int (tb_b b)) := by rw [h]; rfl
end
section
/-! the reference's small methods -/
set_option maxHeartbeats 4000000 in
theorem c_X6_thrown {l : Launch} {G : jq_G} {n : Nat} {ad : Nat → Nat} {X : xs_T} (hn : 39 ≤ n) : xs_Ct l G mX6_thrown 1 [.ref (ad 21)] n ad X (xs_pd (some (.int (X.1 21 26))) X) := by
  refine xs_Ct_of (L := [some (.ref (ad 21))]) rfl (Nat.le_of_ble_eq_true rfl) rfl ?_
  refine jq_aload_n dX6_thrown_0 rfl rfl ?_
  refine xq_getI fX6_67 dX6_thrown_1 (xs_lt (by decide) hn) (by decide) rfl ?_
  exact xq_ireturn dX6_thrown_4 rfl rfl (⟨rfl, rfl⟩)
set_option maxHeartbeats 4000000 in
theorem c_X6_may {l : Launch} {G : jq_G} {n : Nat} {ad : Nat → Nat} {X : xs_T} (hn : 39 ≤ n) (b : Bool) : xs_Ct l G mX6_may 1 [.ref (ad 21), .int (if b then 1 else 0)] n ad X (xs_pd (some (.int (if b then 1 else 0))) (xs_si X 21 26 (if b then 0 else 1))) := by
  refine xs_Ct_of (L := [some (.ref (ad 21)), some (.int (if b then 1 else 0))]) rfl (Nat.le_of_ble_eq_true rfl) rfl ?_
  refine jq_aload_n dX6_may_0 rfl rfl ?_
  refine jq_iload_n dX6_may_1 rfl rfl ?_
  refine jq_if_eq (tgt := 9) dX6_may_2 (by decide) (fun c2 => ?_) (fun c2 => ?_)
  · have hb : b = false := by cases b <;> simp_all
    subst hb
    refine jq_iconst (v := 1) dX6_may_9 (by decide) ?_
    refine xq_putI pX6_67 dX6_may_10 (xs_lt (by decide) hn) (by decide) rfl rfl ?_
    refine jq_iload_n dX6_may_13 rfl rfl ?_
    exact xq_ireturn dX6_may_14 rfl rfl (⟨rfl, rfl⟩)
  · have hb : b = true := by cases b <;> simp_all
    subst hb
    refine jq_iconst (v := 0) dX6_may_5 (by decide) ?_
    refine jq_goto (tgt := 10) dX6_may_6 (by decide) ?_
    refine xq_putI pX6_67 dX6_may_10 (xs_lt (by decide) hn) (by decide) rfl rfl ?_
    refine jq_iload_n dX6_may_13 rfl rfl ?_
    exact xq_ireturn dX6_may_14 rfl rfl (⟨rfl, rfl⟩)
set_option maxHeartbeats 4000000 in
theorem c_X6_isCell {l : Launch} {G : jq_G} {n : Nat} {ad : Nat → Nat} {X : xs_T} (hn : 39 ≤ n) {w h : Nat} (hT : rf_T w h X) (x : Int32) : xs_Ct l G mX6_isCell 1 [.ref (ad 21), .int (x)] n ad X (xs_pd (some (.int (if 0 ≤ x ∧ x < nI (tb_nc w h) then 1 else 0))) X) := by
  refine xs_Ct_of (L := [some (.ref (ad 21)), some (.int (x))]) rfl (Nat.le_of_ble_eq_true rfl) rfl ?_
  refine jq_iload_n dX6_isCell_0 rfl rfl ?_
  refine jq_if_lt (tgt := 16) dX6_isCell_1 (by decide) (fun c1 => ?_) (fun c1 => ?_)
  · refine jq_iconst (v := 0) dX6_isCell_16 (by decide) ?_
    exact xq_ireturn dX6_isCell_17 rfl rfl (⟨by first | rw [if_neg (fun q => absurd c1 (Int32.not_lt.mpr q.1))] | rw [if_neg (fun q => absurd q.2 (Int32.not_lt.mpr c9))] | rw [if_pos ⟨Int32.not_lt.mp c1, Int32.not_le.mp c9⟩], rfl⟩)
  · refine jq_iload_n dX6_isCell_4 rfl rfl ?_
    refine jq_aload_n dX6_isCell_5 rfl rfl ?_
    refine xq_getI fX6_71 dX6_isCell_6 (xs_lt (by decide) hn) (by decide) hT.2.2.2.1 ?_
    refine jq_icmp_ge (tgt := 16) dX6_isCell_9 (by decide) (fun c9 => ?_) (fun c9 => ?_)
    · refine jq_iconst (v := 0) dX6_isCell_16 (by decide) ?_
      exact xq_ireturn dX6_isCell_17 rfl rfl (⟨by first | rw [if_neg (fun q => absurd c1 (Int32.not_lt.mpr q.1))] | rw [if_neg (fun q => absurd q.2 (Int32.not_lt.mpr c9))] | rw [if_pos ⟨Int32.not_lt.mp c1, Int32.not_le.mp c9⟩], rfl⟩)
    · refine jq_iconst (v := 1) dX6_isCell_12 (by decide) ?_
      refine jq_goto (tgt := 17) dX6_isCell_13 (by decide) ?_
      exact xq_ireturn dX6_isCell_17 rfl rfl (⟨by first | rw [if_neg (fun q => absurd c1 (Int32.not_lt.mpr q.1))] | rw [if_neg (fun q => absurd q.2 (Int32.not_lt.mpr c9))] | rw [if_pos ⟨Int32.not_lt.mp c1, Int32.not_le.mp c9⟩], rfl⟩)
set_option maxHeartbeats 4000000 in
theorem c_X6_at {l : Launch} {G : jq_G} {n : Nat} {ad : Nat → Nat} {X : xs_T} (hn : 39 ≤ n) {w h : Nat} {st : Nat → Nat} (hT : rf_T w h X) (hS : rf_S w h st X) {p how : Nat} (hp : p < 2 ^ 31) (hh : how < 2 ^ 31) : xs_Ct l G mX6_at 1 [.ref (ad 21), .int (nI (p)), .int (nI (how))] n ad X (xs_pd (some (.int (nI (tb_at w h st p how)))) X) := by
  have hz := tb_sizes hT.1
  have loop : ∀ k e cnt : Nat, e + k = tb_ne w h → cnt = fb_ct (tb_atB w h st p how) e → jq_J l G mX6_at (jq_R 1 0 0) jq_E0 (xs_Ye G n ad (xs_pd (some (.int (nI (tb_at w h st p how)))) X)) 5 [some (.ref (ad 21)), some (.int (nI (p))), some (.int (nI (how))), some (.int (nI (cnt))), some (.int (nI (e)))] [] n ad (xs_mem G ad X) 0 0 := by
    intro k
    induction k with
    | zero =>
      intro e cnt hk hc
      refine jq_iload dX6_at_5 rfl ?_
      refine jq_aload_n dX6_at_7 rfl rfl ?_
      refine xq_getI fX6_74 dX6_at_8 (xs_lt (by decide) hn) (by decide) hT.2.2.2.2.1 ?_
      refine jq_geN (tgt := 61) dX6_at_11 (by decide) ⟨by omega, by omega⟩ (fun c11 => ?_) (fun c11 => ?_)
      · refine jq_iload_n dX6_at_61 rfl rfl ?_
        exact xq_ireturn dX6_at_62 rfl rfl (⟨by rw [hc, show e = tb_ne w h by omega]; rfl, rfl⟩)
      · exact absurd c11 (by omega)
    | succ k ih =>
      intro e cnt hk hc
      have he : e < tb_ne w h := by omega
      have h1 := hT.2.2.2.2.2.2.1 e he
      have h2 := hT.2.2.2.2.2.2.2.1 e he
      have h3 := hS e he
      have hi : vp_in (nI e) 40 := vp_inN (by omega) (by decide)
      have hb := tb_ends hT.1 e he
      refine jq_iload dX6_at_5 rfl ?_
      refine jq_aload_n dX6_at_7 rfl rfl ?_
      refine xq_getI fX6_74 dX6_at_8 (xs_lt (by decide) hn) (by decide) hT.2.2.2.2.1 ?_
      refine jq_geN (tgt := 61) dX6_at_11 (by decide) ⟨by omega, by omega⟩ (fun c11 => ?_) (fun c11 => ?_)
      · exact absurd c11 (by omega)
      · refine jq_iload_n dX6_at_14 rfl rfl ?_
        refine jq_aload_n dX6_at_15 rfl rfl ?_
        refine xq_getR 22 fX6_7 dX6_at_16 (xs_lt (by decide) hn) (by decide) ?_
        refine jq_iload dX6_at_19 rfl ?_
        refine xq_iaload dX6_at_21 (xs_lt (by decide) hn) rfl hi (xs_rd h1 (by omega)) ?_
        refine jq_iload_n dX6_at_22 rfl rfl ?_
        refine jq_eqN (tgt := 37) dX6_at_23 (by decide) ⟨by omega, by omega⟩ (fun c23 => ?_) (fun c23 => ?_)
        · refine jq_aload_n dX6_at_37 rfl rfl ?_
          refine xq_getR 29 fX6_31 dX6_at_38 (xs_lt (by decide) hn) (by decide) ?_
          refine jq_iload dX6_at_41 rfl ?_
          refine xq_iaload dX6_at_43 (xs_lt (by decide) hn) rfl hi (xs_rd h3.1 (by omega)) ?_
          refine jq_iload_n dX6_at_44 rfl rfl ?_
          refine jq_neN (tgt := 52) dX6_at_45 (by decide) ⟨by omega, by omega⟩ (fun c45 => ?_) (fun c45 => ?_)
          · refine jq_iconst (v := (nI 0)) dX6_at_52 (by decide) ?_
            refine jq_iaddN dX6_at_53 ?_
            refine jq_istore_n dX6_at_54 rfl (by decide) rfl rfl ?_
            refine jq_iincN dX6_at_55 (by decide) rfl rfl rfl ?_
            refine jq_goto (tgt := 5) dX6_at_58 (by decide) ?_
            exact ih (e + 1) _ (by omega) (by rw [fb_ct_succ, ← hc]; simp [tb_atB, *])
          · refine jq_iconst (v := (nI 1)) dX6_at_48 (by decide) ?_
            refine jq_goto (tgt := 53) dX6_at_49 (by decide) ?_
            refine jq_iaddN dX6_at_53 ?_
            refine jq_istore_n dX6_at_54 rfl (by decide) rfl rfl ?_
            refine jq_iincN dX6_at_55 (by decide) rfl rfl rfl ?_
            refine jq_goto (tgt := 5) dX6_at_58 (by decide) ?_
            exact ih (e + 1) _ (by omega) (by rw [fb_ct_succ, ← hc]; simp [tb_atB, *])
        · refine jq_aload_n dX6_at_26 rfl rfl ?_
          refine xq_getR 23 fX6_13 dX6_at_27 (xs_lt (by decide) hn) (by decide) ?_
          refine jq_iload dX6_at_30 rfl ?_
          refine xq_iaload dX6_at_32 (xs_lt (by decide) hn) rfl hi (xs_rd h2 (by omega)) ?_
          refine jq_iload_n dX6_at_33 rfl rfl ?_
          refine jq_neN (tgt := 52) dX6_at_34 (by decide) ⟨by omega, by omega⟩ (fun c34 => ?_) (fun c34 => ?_)
          · refine jq_iconst (v := (nI 0)) dX6_at_52 (by decide) ?_
            refine jq_iaddN dX6_at_53 ?_
            refine jq_istore_n dX6_at_54 rfl (by decide) rfl rfl ?_
            refine jq_iincN dX6_at_55 (by decide) rfl rfl rfl ?_
            refine jq_goto (tgt := 5) dX6_at_58 (by decide) ?_
            exact ih (e + 1) _ (by omega) (by rw [fb_ct_succ, ← hc]; simp [tb_atB, *])
          · refine jq_aload_n dX6_at_37 rfl rfl ?_
            refine xq_getR 29 fX6_31 dX6_at_38 (xs_lt (by decide) hn) (by decide) ?_
            refine jq_iload dX6_at_41 rfl ?_
            refine xq_iaload dX6_at_43 (xs_lt (by decide) hn) rfl hi (xs_rd h3.1 (by omega)) ?_
            refine jq_iload_n dX6_at_44 rfl rfl ?_
            refine jq_neN (tgt := 52) dX6_at_45 (by decide) ⟨by omega, by omega⟩ (fun c45 => ?_) (fun c45 => ?_)
            · refine jq_iconst (v := (nI 0)) dX6_at_52 (by decide) ?_
              refine jq_iaddN dX6_at_53 ?_
              refine jq_istore_n dX6_at_54 rfl (by decide) rfl rfl ?_
              refine jq_iincN dX6_at_55 (by decide) rfl rfl rfl ?_
              refine jq_goto (tgt := 5) dX6_at_58 (by decide) ?_
              exact ih (e + 1) _ (by omega) (by rw [fb_ct_succ, ← hc]; simp [tb_atB, *])
            · refine jq_iconst (v := (nI 1)) dX6_at_48 (by decide) ?_
              refine jq_goto (tgt := 53) dX6_at_49 (by decide) ?_
              refine jq_iaddN dX6_at_53 ?_
              refine jq_istore_n dX6_at_54 rfl (by decide) rfl rfl ?_
              refine jq_iincN dX6_at_55 (by decide) rfl rfl rfl ?_
              refine jq_goto (tgt := 5) dX6_at_58 (by decide) ?_
              exact ih (e + 1) _ (by omega) (by rw [fb_ct_succ, ← hc]; simp [tb_atB, *])
  refine xs_Ct_of (L := [some (.ref (ad 21)), some (.int (nI (p))), some (.int (nI (how))), none, none]) rfl (Nat.le_of_ble_eq_true rfl) rfl ?_
  refine jq_iconst (v := (nI 0)) dX6_at_0 (by decide) ?_
  refine jq_istore_n dX6_at_1 rfl (by decide) rfl rfl ?_
  refine jq_iconst (v := (nI 0)) dX6_at_2 (by decide) ?_
  refine jq_istore dX6_at_3 (by decide) rfl rfl ?_
  exact loop (tb_ne w h) 0 0 (by omega) rfl
end
section
/-! the reference: marks taken, counts around cells and points, ways and loops -/
set_option maxHeartbeats 4000000 in
theorem c_X6_takeMarks {l : Launch} {G : jq_G} {n : Nat} {ad : Nat → Nat} {X : xs_T} (hn : 39 ≤ n) {w h : Nat} (hT : rf_T w h X) : xs_Ct l G mX6_takeMarks 1 [.ref (ad 21)] n ad X (xs_pv (fun X' => xs_fr [29] [] X X' ∧ ∀ e, e < tb_ne w h → X'.2.2.1 29 e = X.2.2.1 28 e)) := by
  have hz := tb_sizes hT.1
  have loop : ∀ (k e : Nat) (Y : xs_T), e + k = tb_ne w h → xs_fr [29] [] X Y → (∀ j, j < e → Y.2.2.1 29 j = X.2.2.1 28 j) → jq_J l G mX6_takeMarks (jq_R 1 0 0) jq_E0 (xs_Ye G n ad (xs_pv (fun X' => xs_fr [29] [] X X' ∧ ∀ e, e < tb_ne w h → X'.2.2.1 29 e = X.2.2.1 28 e))) 2 [some (.ref (ad 21)), some (.int (nI (e)))] [] n ad (xs_mem G ad Y) 0 0 := by
    intro k
    induction k with
    | zero =>
      intro e Y hk hf hY
      have hE := xs_fi hf 21 3 hT.2.2.2.2.1
      refine jq_iload_n dX6_takeMarks_2 rfl rfl ?_
      refine jq_aload_n dX6_takeMarks_3 rfl rfl ?_
      refine xq_getI fX6_74 dX6_takeMarks_4 (xs_lt (by decide) hn) (by decide) hE ?_
      refine jq_geN (tgt := 28) dX6_takeMarks_7 (by decide) ⟨by omega, by omega⟩ (fun c7 => ?_) (fun c7 => ?_)
      · exact xq_return rfl dX6_takeMarks_28 rfl (⟨rfl, hf, by rw [show tb_ne w h = e by omega]; exact hY⟩)
      · exact absurd c7 (by omega)
    | succ k ih =>
      intro e Y hk hf hY
      have hE := xs_fi hf 21 3 hT.2.2.2.2.1
      have hi : vp_in (nI e) 40 := vp_inN (by omega) (by decide)
      refine jq_iload_n dX6_takeMarks_2 rfl rfl ?_
      refine jq_aload_n dX6_takeMarks_3 rfl rfl ?_
      refine xq_getI fX6_74 dX6_takeMarks_4 (xs_lt (by decide) hn) (by decide) hE ?_
      refine jq_geN (tgt := 28) dX6_takeMarks_7 (by decide) ⟨by omega, by omega⟩ (fun c7 => ?_) (fun c7 => ?_)
      · exact absurd c7 (by omega)
      · refine jq_aload_n dX6_takeMarks_10 rfl rfl ?_
        refine xq_getR 29 fX6_31 dX6_takeMarks_11 (xs_lt (by decide) hn) (by decide) ?_
        refine jq_iload_n dX6_takeMarks_14 rfl rfl ?_
        refine jq_aload_n dX6_takeMarks_15 rfl rfl ?_
        refine xq_getR 28 fX6_28 dX6_takeMarks_16 (xs_lt (by decide) hn) (by decide) ?_
        refine jq_iload_n dX6_takeMarks_19 rfl rfl ?_
        refine xq_iaload dX6_takeMarks_20 (xs_lt (by decide) hn) rfl hi rfl ?_
        refine xq_iastore dX6_takeMarks_21 (xs_lt (by decide) hn) rfl hi ?_
        refine jq_iincN dX6_takeMarks_22 (by decide) rfl rfl rfl ?_
        refine jq_goto (tgt := 2) dX6_takeMarks_25 (by decide) ?_
        refine ih (e + 1) _ (by omega) (xs_fr_ai hf (by decide)) (fun j hj => ?_)
        rw [xs_ai_at]
        rcases Nat.lt_or_ge j e with q | q
        · rw [xs_upd_ne (by omega) (by omega)]; exact hY j q
        · rw [show j = e by omega, xs_upd_at (by omega), nI_clamp (by omega), xs_fa hf 28]
  refine xs_Ct_of (L := [some (.ref (ad 21)), none]) rfl (Nat.le_of_ble_eq_true rfl) rfl ?_
  refine jq_iconst (v := (nI 0)) dX6_takeMarks_0 (by decide) ?_
  refine jq_istore_n dX6_takeMarks_1 rfl (by decide) rfl rfl ?_
  exact loop (tb_ne w h) 0 X (by omega) xs_fr_rf (fun j hj => absurd hj (Nat.not_lt_zero j))
set_option maxHeartbeats 4000000 in
theorem c_X6_around {l : Launch} {G : jq_G} {n : Nat} {ad : Nat → Nat} {X : xs_T} (hn : 39 ≤ n) {w h : Nat} {st : Nat → Nat} (hT : rf_T w h X) (hS : rf_S w h st X) {c how : Nat} (hc : c < tb_nc w h) (hh : how < 2 ^ 31) : xs_Ct l G mX6_around 1 [.ref (ad 21), .int (nI (c)), .int (nI (how))] n ad X (xs_pd (some (.int (nI (tb_ar w h st c how)))) X) := by
  have hz := tb_sizes hT.1
  have loop : ∀ k e cnt : Nat, e + k = 4 → cnt = fb_ct (fun s => st (tb_sid w h c s) == how) e → jq_J l G mX6_around (jq_R 1 0 0) jq_E0 (xs_Ye G n ad (xs_pd (some (.int (nI (tb_ar w h st c how)))) X)) 5 [some (.ref (ad 21)), some (.int (nI (c))), some (.int (nI (how))), some (.int (nI (cnt))), some (.int (nI (e)))] [] n ad (xs_mem G ad X) 0 0 := by
    intro k
    induction k with
    | zero =>
      intro e cnt hk hcn
      refine jq_iload dX6_around_5 rfl ?_
      refine jq_iconst (v := (nI 4)) dX6_around_7 (by decide) ?_
      refine jq_geN (tgt := 45) dX6_around_8 (by decide) ⟨by omega, by omega⟩ (fun c8 => ?_) (fun c8 => ?_)
      · refine jq_iload_n dX6_around_45 rfl rfl ?_
        exact xq_ireturn dX6_around_46 rfl rfl (⟨by rw [hcn, show e = 4 by omega]; rfl, rfl⟩)
      · exact absurd c8 (by omega)
    | succ k ih =>
      intro e cnt hk hcn
      have h1 := hT.2.2.2.2.2.2.2.2.2.2 c hc e (by omega)
      have hsd := tb_sides hT.1 c hc e (by omega)
      have h3 := hS _ hsd
      have hi : vp_in (nI (4 * c + e)) 64 := vp_inN (by omega) (by decide)
      have hi2 : vp_in (nI (tb_sid w h c e)) 40 := vp_inN (by omega) (by decide)
      refine jq_iload dX6_around_5 rfl ?_
      refine jq_iconst (v := (nI 4)) dX6_around_7 (by decide) ?_
      refine jq_geN (tgt := 45) dX6_around_8 (by decide) ⟨by omega, by omega⟩ (fun c8 => ?_) (fun c8 => ?_)
      · exact absurd c8 (by omega)
      · refine jq_iload_n dX6_around_11 rfl rfl ?_
        refine jq_aload_n dX6_around_12 rfl rfl ?_
        refine xq_getR 29 fX6_31 dX6_around_13 (xs_lt (by decide) hn) (by decide) ?_
        refine jq_aload_n dX6_around_16 rfl rfl ?_
        refine xq_getR 26 fX6_22 dX6_around_17 (xs_lt (by decide) hn) (by decide) ?_
        refine jq_iconst (v := (nI 4)) dX6_around_20 (by decide) ?_
        refine jq_iload_n dX6_around_21 rfl rfl ?_
        refine jq_imulN dX6_around_22 ?_
        refine jq_iload dX6_around_23 rfl ?_
        refine jq_iaddN dX6_around_25 ?_
        refine xq_iaload dX6_around_26 (xs_lt (by decide) hn) rfl hi (xs_rd h1 (by omega)) ?_
        refine xq_iaload dX6_around_27 (xs_lt (by decide) hn) rfl hi2 (xs_rd h3.1 (by omega)) ?_
        refine jq_iload_n dX6_around_28 rfl rfl ?_
        refine jq_neN (tgt := 36) dX6_around_29 (by decide) ⟨by omega, by omega⟩ (fun c29 => ?_) (fun c29 => ?_)
        · refine jq_iconst (v := (nI 0)) dX6_around_36 (by decide) ?_
          refine jq_iaddN dX6_around_37 ?_
          refine jq_istore_n dX6_around_38 rfl (by decide) rfl rfl ?_
          refine jq_iincN dX6_around_39 (by decide) rfl rfl rfl ?_
          refine jq_goto (tgt := 5) dX6_around_42 (by decide) ?_
          exact ih (e + 1) _ (by omega) (by rw [fb_ct_succ, ← hcn]; simp [*])
        · refine jq_iconst (v := (nI 1)) dX6_around_32 (by decide) ?_
          refine jq_goto (tgt := 37) dX6_around_33 (by decide) ?_
          refine jq_iaddN dX6_around_37 ?_
          refine jq_istore_n dX6_around_38 rfl (by decide) rfl rfl ?_
          refine jq_iincN dX6_around_39 (by decide) rfl rfl rfl ?_
          refine jq_goto (tgt := 5) dX6_around_42 (by decide) ?_
          exact ih (e + 1) _ (by omega) (by rw [fb_ct_succ, ← hcn]; simp [*])
  refine xs_Ct_of (L := [some (.ref (ad 21)), some (.int (nI (c))), some (.int (nI (how))), none, none]) rfl (Nat.le_of_ble_eq_true rfl) rfl ?_
  refine jq_iconst (v := (nI 0)) dX6_around_0 (by decide) ?_
  refine jq_istore_n dX6_around_1 rfl (by decide) rfl rfl ?_
  refine jq_iconst (v := (nI 0)) dX6_around_2 (by decide) ?_
  refine jq_istore dX6_around_3 (by decide) rfl rfl ?_
  exact loop 4 0 0 (by omega) rfl
set_option maxHeartbeats 4000000 in
theorem c_X6_count {l : Launch} {G : jq_G} {n : Nat} {ad : Nat → Nat} {X : xs_T} (hn : 39 ≤ n) {w h : Nat} {st : Nat → Nat} (hT : rf_T w h X) (hS : rf_S w h st X) {how : Nat} (hh : how < 2 ^ 31) : xs_Ct l G mX6_count 1 [.ref (ad 21), .int (nI (how))] n ad X (xs_pd (some (.int (nI (tb_cnt w h st how)))) X) := by
  have hz := tb_sizes hT.1
  have loop : ∀ k e cnt : Nat, e + k = tb_ne w h → cnt = fb_ct (fun e => st e == how) e → jq_J l G mX6_count (jq_R 1 0 0) jq_E0 (xs_Ye G n ad (xs_pd (some (.int (nI (tb_cnt w h st how)))) X)) 4 [some (.ref (ad 21)), some (.int (nI (how))), some (.int (nI (cnt))), some (.int (nI (e)))] [] n ad (xs_mem G ad X) 0 0 := by
    intro k
    induction k with
    | zero =>
      intro e cnt hk hcn
      refine jq_iload_n dX6_count_4 rfl rfl ?_
      refine jq_aload_n dX6_count_5 rfl rfl ?_
      refine xq_getI fX6_74 dX6_count_6 (xs_lt (by decide) hn) (by decide) hT.2.2.2.2.1 ?_
      refine jq_geN (tgt := 36) dX6_count_9 (by decide) ⟨by omega, by omega⟩ (fun c9 => ?_) (fun c9 => ?_)
      · refine jq_iload_n dX6_count_36 rfl rfl ?_
        exact xq_ireturn dX6_count_37 rfl rfl (⟨by rw [hcn, show e = tb_ne w h by omega]; rfl, rfl⟩)
      · exact absurd c9 (by omega)
    | succ k ih =>
      intro e cnt hk hcn
      have h3 := hS e (by omega)
      have hi : vp_in (nI e) 40 := vp_inN (by omega) (by decide)
      refine jq_iload_n dX6_count_4 rfl rfl ?_
      refine jq_aload_n dX6_count_5 rfl rfl ?_
      refine xq_getI fX6_74 dX6_count_6 (xs_lt (by decide) hn) (by decide) hT.2.2.2.2.1 ?_
      refine jq_geN (tgt := 36) dX6_count_9 (by decide) ⟨by omega, by omega⟩ (fun c9 => ?_) (fun c9 => ?_)
      · exact absurd c9 (by omega)
      · refine jq_iload_n dX6_count_12 rfl rfl ?_
        refine jq_aload_n dX6_count_13 rfl rfl ?_
        refine xq_getR 29 fX6_31 dX6_count_14 (xs_lt (by decide) hn) (by decide) ?_
        refine jq_iload_n dX6_count_17 rfl rfl ?_
        refine xq_iaload dX6_count_18 (xs_lt (by decide) hn) rfl hi (xs_rd h3.1 (by omega)) ?_
        refine jq_iload_n dX6_count_19 rfl rfl ?_
        refine jq_neN (tgt := 27) dX6_count_20 (by decide) ⟨by omega, by omega⟩ (fun c20 => ?_) (fun c20 => ?_)
        · refine jq_iconst (v := (nI 0)) dX6_count_27 (by decide) ?_
          refine jq_iaddN dX6_count_28 ?_
          refine jq_istore_n dX6_count_29 rfl (by decide) rfl rfl ?_
          refine jq_iincN dX6_count_30 (by decide) rfl rfl rfl ?_
          refine jq_goto (tgt := 4) dX6_count_33 (by decide) ?_
          exact ih (e + 1) _ (by omega) (by rw [fb_ct_succ, ← hcn]; simp [*])
        · refine jq_iconst (v := (nI 1)) dX6_count_23 (by decide) ?_
          refine jq_goto (tgt := 28) dX6_count_24 (by decide) ?_
          refine jq_iaddN dX6_count_28 ?_
          refine jq_istore_n dX6_count_29 rfl (by decide) rfl rfl ?_
          refine jq_iincN dX6_count_30 (by decide) rfl rfl rfl ?_
          refine jq_goto (tgt := 4) dX6_count_33 (by decide) ?_
          exact ih (e + 1) _ (by omega) (by rw [fb_ct_succ, ← hcn]; simp [*])
  refine xs_Ct_of (L := [some (.ref (ad 21)), some (.int (nI (how))), none, none]) rfl (Nat.le_of_ble_eq_true rfl) rfl ?_
  refine jq_iconst (v := (nI 0)) dX6_count_0 (by decide) ?_
  refine jq_istore_n dX6_count_1 rfl (by decide) rfl rfl ?_
  refine jq_iconst (v := (nI 0)) dX6_count_2 (by decide) ?_
  refine jq_istore_n dX6_count_3 rfl (by decide) rfl rfl ?_
  exact loop (tb_ne w h) 0 0 (by omega) rfl
set_option maxHeartbeats 4000000 in
theorem c_X6_areRight {l : Launch} {G : jq_G} {n : Nat} {ad : Nat → Nat} {X : xs_T} (hn : 39 ≤ n) {w h : Nat} {num : Nat → Int32} {st : Nat → Nat} (hT : rf_T w h X) (hS : rf_S w h st X) (hN : rf_N w h num X) : xs_Ct l G mX6_areRight 2 [.ref (ad 21)] n ad X (xs_pd (some (.int (tb_b (tb_right w h num st)))) X) := by
  have hz := tb_sizes hT.1
  have loop : ∀ k c : Nat, c + k = tb_nc w h → (∀ j, j < c → tb_rightB w h num st j = true) → jq_J l G mX6_areRight (jq_R 2 0 0) jq_E0 (xs_Ye G n ad (xs_pd (some (.int (tb_b (tb_right w h num st)))) X)) 2 [some (.ref (ad 21)), some (.int (nI (c)))] [] n ad (xs_mem G ad X) 0 0 := by
    intro k
    induction k with
    | zero =>
      intro c hk hc
      refine jq_iload_n dX6_areRight_2 rfl rfl ?_
      refine jq_aload_n dX6_areRight_3 rfl rfl ?_
      refine xq_getI fX6_71 dX6_areRight_4 (xs_lt (by decide) hn) (by decide) hT.2.2.2.1 ?_
      refine jq_geN (tgt := 43) dX6_areRight_7 (by decide) ⟨by omega, by omega⟩ (fun c7 => ?_) (fun c7 => ?_)
      · refine jq_iconst (v := 1) dX6_areRight_43 (by decide) ?_
        exact xq_ireturn dX6_areRight_44 rfl rfl (⟨tb_vt (tb_allT (by rw [show tb_nc w h = c by omega]; exact hc)), rfl⟩)
      · exact absurd c7 (by omega)
    | succ k ih =>
      intro c hk hc
      have h3 := hN c (by omega)
      have hi : vp_in (nI c) 16 := vp_inN (by omega) (by decide)
      refine jq_iload_n dX6_areRight_2 rfl rfl ?_
      refine jq_aload_n dX6_areRight_3 rfl rfl ?_
      refine xq_getI fX6_71 dX6_areRight_4 (xs_lt (by decide) hn) (by decide) hT.2.2.2.1 ?_
      refine jq_geN (tgt := 43) dX6_areRight_7 (by decide) ⟨by omega, by omega⟩ (fun c7 => ?_) (fun c7 => ?_)
      · exact absurd c7 (by omega)
      · refine jq_aload_n dX6_areRight_10 rfl rfl ?_
        refine xq_getR 27 fX6_25 dX6_areRight_11 (xs_lt (by decide) hn) (by decide) ?_
        refine jq_iload_n dX6_areRight_14 rfl rfl ?_
        refine xq_iaload dX6_areRight_15 (xs_lt (by decide) hn) rfl hi (xs_rd h3 (by omega)) ?_
        refine jq_iconst (v := (-1)) dX6_areRight_16 (by decide) ?_
        refine jq_icmp_eq (tgt := 37) dX6_areRight_17 (by decide) (fun c17 => ?_) (fun c17 => ?_)
        · refine jq_iincN dX6_areRight_37 (by decide) rfl rfl rfl ?_
          refine jq_goto (tgt := 2) dX6_areRight_40 (by decide) ?_
          refine ih (c + 1) (by omega) (fun j hj => ?_)
          rcases Nat.lt_or_ge j c with q | q
          · exact hc j q
          · rw [show j = c by omega]; simp [tb_rightB, *]
        · refine jq_aload_n dX6_areRight_20 rfl rfl ?_
          refine jq_iload_n dX6_areRight_21 rfl rfl ?_
          refine jq_iconst (v := (nI 1)) dX6_areRight_22 (by decide) ?_
          refine xq_vI dX6_areRight_23 kX6_111 (c_X6_around hn hT hS (by omega) (by decide)) (xs_lt (by decide) hn) ⟨rfl, rfl⟩ rfl rfl (Nat.le_of_ble_eq_true rfl) ⟨⟨by decide, by decide⟩, Nat.le_refl _, Nat.le_refl _⟩ ?_
          refine jq_aload_n dX6_areRight_26 rfl rfl ?_
          refine xq_getR 27 fX6_25 dX6_areRight_27 (xs_lt (by decide) hn) (by decide) ?_
          refine jq_iload_n dX6_areRight_30 rfl rfl ?_
          refine xq_iaload dX6_areRight_31 (xs_lt (by decide) hn) rfl hi (xs_rd h3 (by omega)) ?_
          refine jq_icmp_eq (tgt := 37) dX6_areRight_32 (by decide) (fun c32 => ?_) (fun c32 => ?_)
          · refine jq_iincN dX6_areRight_37 (by decide) rfl rfl rfl ?_
            refine jq_goto (tgt := 2) dX6_areRight_40 (by decide) ?_
            refine ih (c + 1) (by omega) (fun j hj => ?_)
            rcases Nat.lt_or_ge j c with q | q
            · exact hc j q
            · rw [show j = c by omega]; simp [tb_rightB, *]
          · refine jq_iconst (v := 0) dX6_areRight_35 (by decide) ?_
            exact xq_ireturn dX6_areRight_36 rfl rfl (⟨tb_vf (tb_allF (c := c) (by omega) (by simp [tb_rightB, *])), rfl⟩)
  refine xs_Ct_of (L := [some (.ref (ad 21)), none]) rfl (Nat.le_of_ble_eq_true rfl) rfl ?_
  refine jq_iconst (v := (nI 0)) dX6_areRight_0 (by decide) ?_
  refine jq_istore_n dX6_areRight_1 rfl (by decide) rfl rfl ?_
  exact loop (tb_nc w h) 0 (by omega) (fun j hj => absurd hj (Nat.not_lt_zero j))
set_option maxHeartbeats 4000000 in
theorem c_X6_waysOf {l : Launch} {G : jq_G} {n : Nat} {ad : Nat → Nat} {X : xs_T} (hn : 39 ≤ n) {w h : Nat} {st : Nat → Nat} (hT : rf_T w h X) (hS : rf_S w h st X) (hL : rf_L w h (tb_isL st) X) : xs_Ct l G mX6_waysOf 2 [.ref (ad 21)] n ad X (xs_pd (some (.int (nI (tb_ways w h st)))) X) := by
  have hz := tb_sizes hT.1
  have loop : ∀ k p cnt : Nat, p + k = tb_np w h → cnt = fb_ct (tb_wayB w h st) p → jq_J l G mX6_waysOf (jq_R 2 0 0) jq_E0 (xs_Ye G n ad (xs_pd (some (.int (nI (tb_ways w h st)))) X)) 4 [some (.ref (ad 21)), some (.int (nI (cnt))), some (.int (nI (p)))] [] n ad (xs_mem G ad X) 0 0 := by
    intro k
    induction k with
    | zero =>
      intro p cnt hk hcn
      refine jq_iload_n dX6_waysOf_4 rfl rfl ?_
      refine jq_aload_n dX6_waysOf_5 rfl rfl ?_
      refine xq_getI fX6_83 dX6_waysOf_6 (xs_lt (by decide) hn) (by decide) hT.2.2.2.2.2.1 ?_
      refine jq_geN (tgt := 45) dX6_waysOf_9 (by decide) ⟨by omega, by omega⟩ (fun c9 => ?_) (fun c9 => ?_)
      · refine jq_iload_n dX6_waysOf_45 rfl rfl ?_
        exact xq_ireturn dX6_waysOf_46 rfl rfl (⟨by rw [hcn, show p = tb_np w h by omega]; rfl, rfl⟩)
      · exact absurd c9 (by omega)
    | succ k ih =>
      intro p cnt hk hcn
      have h3 := hL p (by omega)
      have hl := tb_L_lt (S := tb_isL st) (show p < tb_np w h by omega)
      have hd := tb_at_le hT.1 st p 1
      have hi : vp_in (nI p) 25 := vp_inN (by omega) (by decide)
      refine jq_iload_n dX6_waysOf_4 rfl rfl ?_
      refine jq_aload_n dX6_waysOf_5 rfl rfl ?_
      refine xq_getI fX6_83 dX6_waysOf_6 (xs_lt (by decide) hn) (by decide) hT.2.2.2.2.2.1 ?_
      refine jq_geN (tgt := 45) dX6_waysOf_9 (by decide) ⟨by omega, by omega⟩ (fun c9 => ?_) (fun c9 => ?_)
      · exact absurd c9 (by omega)
      · refine jq_iload_n dX6_waysOf_12 rfl rfl ?_
        refine jq_aload_n dX6_waysOf_13 rfl rfl ?_
        refine xq_getR 34 fX6_46 dX6_waysOf_14 (xs_lt (by decide) hn) (by decide) ?_
        refine jq_iload_n dX6_waysOf_17 rfl rfl ?_
        refine xq_iaload dX6_waysOf_18 (xs_lt (by decide) hn) rfl hi (xs_rd h3 (by omega)) ?_
        refine jq_iload_n dX6_waysOf_19 rfl rfl ?_
        refine jq_neN (tgt := 36) dX6_waysOf_20 (by decide) ⟨by omega, by omega⟩ (fun c20 => ?_) (fun c20 => ?_)
        · refine jq_iconst (v := (nI 0)) dX6_waysOf_36 (by decide) ?_
          refine jq_iaddN dX6_waysOf_37 ?_
          refine jq_istore_n dX6_waysOf_38 rfl (by decide) rfl rfl ?_
          refine jq_iincN dX6_waysOf_39 (by decide) rfl rfl rfl ?_
          refine jq_goto (tgt := 4) dX6_waysOf_42 (by decide) ?_
          exact ih (p + 1) _ (by omega) (by rw [fb_ct_succ, ← hcn]; simp [tb_wayB, tb_deg, *])
        · refine jq_aload_n dX6_waysOf_23 rfl rfl ?_
          refine jq_iload_n dX6_waysOf_24 rfl rfl ?_
          refine jq_iconst (v := (nI 1)) dX6_waysOf_25 (by decide) ?_
          refine xq_vI dX6_waysOf_26 kX6_114 (c_X6_at hn hT hS (by omega) (by decide)) (xs_lt (by decide) hn) ⟨rfl, rfl⟩ rfl rfl (Nat.le_of_ble_eq_true rfl) ⟨⟨by decide, by decide⟩, Nat.le_refl _, Nat.le_refl _⟩ ?_
          refine jq_leZ (tgt := 36) dX6_waysOf_29 (by decide) (by omega) (fun c29 => ?_) (fun c29 => ?_)
          · refine jq_iconst (v := (nI 0)) dX6_waysOf_36 (by decide) ?_
            refine jq_iaddN dX6_waysOf_37 ?_
            refine jq_istore_n dX6_waysOf_38 rfl (by decide) rfl rfl ?_
            refine jq_iincN dX6_waysOf_39 (by decide) rfl rfl rfl ?_
            refine jq_goto (tgt := 4) dX6_waysOf_42 (by decide) ?_
            exact ih (p + 1) _ (by omega) (by rw [fb_ct_succ, ← hcn]; simp [tb_wayB, tb_deg, *])
          · refine jq_iconst (v := (nI 1)) dX6_waysOf_32 (by decide) ?_
            refine jq_goto (tgt := 37) dX6_waysOf_33 (by decide) ?_
            refine jq_iaddN dX6_waysOf_37 ?_
            refine jq_istore_n dX6_waysOf_38 rfl (by decide) rfl rfl ?_
            refine jq_iincN dX6_waysOf_39 (by decide) rfl rfl rfl ?_
            refine jq_goto (tgt := 4) dX6_waysOf_42 (by decide) ?_
            exact ih (p + 1) _ (by omega) (by rw [fb_ct_succ, ← hcn]; simp [tb_wayB, tb_deg, *])
  refine xs_Ct_of (L := [some (.ref (ad 21)), none, none]) rfl (Nat.le_of_ble_eq_true rfl) rfl ?_
  refine jq_iconst (v := (nI 0)) dX6_waysOf_0 (by decide) ?_
  refine jq_istore_n dX6_waysOf_1 rfl (by decide) rfl rfl ?_
  refine jq_iconst (v := (nI 0)) dX6_waysOf_2 (by decide) ?_
  refine jq_istore_n dX6_waysOf_3 rfl (by decide) rfl rfl ?_
  exact loop (tb_np w h) 0 0 (by omega) rfl
set_option maxHeartbeats 4000000 in
theorem c_X6_isLoop {l : Launch} {G : jq_G} {n : Nat} {ad : Nat → Nat} {X : xs_T} (hn : 39 ≤ n) {w h : Nat} {st : Nat → Nat} (hT : rf_T w h X) (hS : rf_S w h st X) (hL : rf_L w h (tb_isL st) X) : xs_Ct l G mX6_isLoop 3 [.ref (ad 21)] n ad X (xs_pd (some (.int (tb_b (tb_isLoop w h st)))) X) := by
  have hz := tb_sizes hT.1
  have loop : ∀ (k p : Nat) (o : Option Value), p + k = tb_np w h → (∀ j, j < p → (tb_deg w h st j == 0 || tb_deg w h st j == 2) = true) → jq_J l G mX6_isLoop (jq_R 3 0 0) jq_E0 (xs_Ye G n ad (xs_pd (some (.int (tb_b (tb_isLoop w h st)))) X)) 2 [some (.ref (ad 21)), some (.int (nI (p))), o] [] n ad (xs_mem G ad X) 0 0 := by
    intro k
    induction k with
    | zero =>
      intro p o hk hc
      have hall : (List.range (tb_np w h)).all (fun p => tb_deg w h st p == 0 || tb_deg w h st p == 2) = true := tb_allT (by rw [show tb_np w h = p by omega]; exact hc)
      have hwl : tb_ways w h st ≤ 25 := Nat.le_trans (fb_ct_le _ _) (by omega)
      refine jq_iload_n dX6_isLoop_2 rfl rfl ?_
      refine jq_aload_n dX6_isLoop_3 rfl rfl ?_
      refine xq_getI fX6_83 dX6_isLoop_4 (xs_lt (by decide) hn) (by decide) hT.2.2.2.2.2.1 ?_
      refine jq_geN (tgt := 34) dX6_isLoop_7 (by decide) ⟨by omega, by omega⟩ (fun c7 => ?_) (fun c7 => ?_)
      · refine jq_aload_n dX6_isLoop_34 rfl rfl ?_
        refine xq_vI dX6_isLoop_35 kX6_117 (c_X6_waysOf hn hT hS hL) (xs_lt (by decide) hn) ⟨rfl, rfl⟩ rfl rfl (Nat.le_of_ble_eq_true rfl) ⟨⟨by decide, by decide⟩, Nat.le_refl _, Nat.le_refl _⟩ ?_
        refine jq_iconst (v := (nI 1)) dX6_isLoop_38 (by decide) ?_
        refine jq_neN (tgt := 46) dX6_isLoop_39 (by decide) ⟨by omega, by omega⟩ (fun c39 => ?_) (fun c39 => ?_)
        · refine jq_iconst (v := 0) dX6_isLoop_46 (by decide) ?_
          exact xq_ireturn dX6_isLoop_47 rfl rfl (⟨by unfold tb_isLoop; rw [hall]; simp [tb_b, c39], rfl⟩)
        · refine jq_iconst (v := 1) dX6_isLoop_42 (by decide) ?_
          refine jq_goto (tgt := 47) dX6_isLoop_43 (by decide) ?_
          exact xq_ireturn dX6_isLoop_47 rfl rfl (⟨by unfold tb_isLoop; rw [hall]; simp [tb_b, c39], rfl⟩)
      · exact absurd c7 (by omega)
    | succ k ih =>
      intro p o hk hc
      have hd := tb_at_le hT.1 st p 1
      refine jq_iload_n dX6_isLoop_2 rfl rfl ?_
      refine jq_aload_n dX6_isLoop_3 rfl rfl ?_
      refine xq_getI fX6_83 dX6_isLoop_4 (xs_lt (by decide) hn) (by decide) hT.2.2.2.2.2.1 ?_
      refine jq_geN (tgt := 34) dX6_isLoop_7 (by decide) ⟨by omega, by omega⟩ (fun c7 => ?_) (fun c7 => ?_)
      · exact absurd c7 (by omega)
      · refine jq_aload_n dX6_isLoop_10 rfl rfl ?_
        refine jq_iload_n dX6_isLoop_11 rfl rfl ?_
        refine jq_iconst (v := (nI 1)) dX6_isLoop_12 (by decide) ?_
        refine xq_vI dX6_isLoop_13 kX6_114 (c_X6_at hn hT hS (by omega) (by decide)) (xs_lt (by decide) hn) ⟨rfl, rfl⟩ rfl rfl (Nat.le_of_ble_eq_true rfl) ⟨⟨by decide, by decide⟩, Nat.le_refl _, Nat.le_refl _⟩ ?_
        refine jq_istore_n dX6_isLoop_16 rfl (by decide) rfl rfl ?_
        refine jq_iload_n dX6_isLoop_17 rfl rfl ?_
        refine jq_eqZ (tgt := 28) dX6_isLoop_18 (by decide) (by omega) (fun c18 => ?_) (fun c18 => ?_)
        · refine jq_iincN dX6_isLoop_28 (by decide) rfl rfl rfl ?_
          refine jq_goto (tgt := 2) dX6_isLoop_31 (by decide) ?_
          refine ih (p + 1) _ (by omega) (fun j hj => ?_)
          rcases Nat.lt_or_ge j p with q | q
          · exact hc j q
          · rw [show j = p by omega]; simp [tb_deg, *]
        · refine jq_iload_n dX6_isLoop_21 rfl rfl ?_
          refine jq_iconst (v := (nI 2)) dX6_isLoop_22 (by decide) ?_
          refine jq_eqN (tgt := 28) dX6_isLoop_23 (by decide) ⟨by omega, by omega⟩ (fun c23 => ?_) (fun c23 => ?_)
          · refine jq_iincN dX6_isLoop_28 (by decide) rfl rfl rfl ?_
            refine jq_goto (tgt := 2) dX6_isLoop_31 (by decide) ?_
            refine ih (p + 1) _ (by omega) (fun j hj => ?_)
            rcases Nat.lt_or_ge j p with q | q
            · exact hc j q
            · rw [show j = p by omega]; simp [tb_deg, *]
          · refine jq_iconst (v := 0) dX6_isLoop_26 (by decide) ?_
            exact xq_ireturn dX6_isLoop_27 rfl rfl (⟨by unfold tb_isLoop; rw [tb_allF (c := p) (by omega) (by simp [tb_deg, *])]; rfl, rfl⟩)
  refine xs_Ct_of (L := [some (.ref (ad 21)), none, none]) rfl (Nat.le_of_ble_eq_true rfl) rfl ?_
  refine jq_iconst (v := (nI 0)) dX6_isLoop_0 (by decide) ?_
  refine jq_istore_n dX6_isLoop_1 rfl (by decide) rfl rfl ?_
  exact loop (tb_np w h) 0 _ (by omega) (fun j hj => absurd hj (Nat.not_lt_zero j))
end
section
def tb_lo (a b : Nat) : Nat := if a < b then a else b
def tb_hi (a b : Nat) : Nat := if a < b then b else a
theorem tb_lab_y {w h : Nat} {S : Nat → Bool} {k : Nat} (hS : S k = true) (hn : tb_lab w h S k (tb_one w h k) ≠ tb_lab w h S k (tb_oth w h k)) (p : Nat) : tb_lab w h S (k + 1) p = if tb_lab w h S k p = tb_hi (tb_lab w h S k (tb_one w h k)) (tb_lab w h S k (tb_oth w h k)) then tb_lo (tb_lab w h S k (tb_one w h k)) (tb_lab w h S k (tb_oth w h k)) else tb_lab w h S k p := by
  rw [tb_lab]
  exact if_pos ⟨hS, hn⟩
theorem tb_lab_n {w h : Nat} {S : Nat → Bool} {k : Nat} (hn : ¬ (S k = true ∧ tb_lab w h S k (tb_one w h k) ≠ tb_lab w h S k (tb_oth w h k))) (p : Nat) : tb_lab w h S (k + 1) p = tb_lab w h S k p := by
  rw [tb_lab]
  exact if_neg hn
theorem tb_lo_t {a b : Nat} (h : a < b) : a = tb_lo a b := (if_pos h).symm
theorem tb_lo_f {a b : Nat} (h : b ≤ a) : b = tb_lo a b := (if_neg (Nat.not_lt.mpr h)).symm
theorem tb_hi_t {a b : Nat} (h : a < b) : b = tb_hi a b := (if_pos h).symm
theorem tb_hi_f {a b : Nat} (h : b ≤ a) : a = tb_hi a b := (if_neg (Nat.not_lt.mpr h)).symm
theorem tb_lohi {a b N : Nat} (ha : a < N) (hb : b < N) : tb_lo a b < N ∧ tb_hi a b < N := by
  unfold tb_lo tb_hi
  constructor <;> split <;> assumption
end
section
set_option maxHeartbeats 4000000 in
theorem c_X6_labels {l : Launch} {G : jq_G} {n : Nat} {ad : Nat → Nat} {X : xs_T} (hn : 39 ≤ n) {w h : Nat} {st : Nat → Nat} (hT : rf_T w h X) (hS : rf_S w h st X) : xs_Ct l G mX6_labels 1 [.ref (ad 21)] n ad X (xs_pv (fun X' => xs_fr [34] [] X X' ∧ rf_L w h (tb_isL st) X')) := by
  have hz := tb_sizes hT.1
  have loop2 : ∀ (k e : Nat) (o2 o3 o4 : Option Value) (Y : xs_T), e + k = tb_ne w h → xs_fr [34] [] X Y → (∀ p, p < tb_np w h → Y.2.2.1 34 p = nI (tb_lab w h (tb_isL st) e p)) → jq_J l G mX6_labels (jq_R 1 0 0) jq_E0 (xs_Ye G n ad (xs_pv (fun X' => xs_fr [34] [] X X' ∧ rf_L w h (tb_isL st) X'))) 25 [some (.ref (ad 21)), some (.int (nI (e))), o2, o3, o4] [] n ad (xs_mem G ad Y) 0 0 := by
    intro k
    induction k with
    | zero =>
      intro e o2 o3 o4 Y hk hf hY
      have hE := xs_fi hf 21 3 hT.2.2.2.2.1
      refine jq_iload_n dX6_labels_25 rfl rfl ?_
      refine jq_aload_n dX6_labels_26 rfl rfl ?_
      refine xq_getI fX6_74 dX6_labels_27 (xs_lt (by decide) hn) (by decide) hE ?_
      refine jq_geN (tgt := 223) dX6_labels_30 (by decide) ⟨by omega, by omega⟩ (fun c30 => ?_) (fun c30 => ?_)
      · exact xq_return rfl dX6_labels_223 rfl (⟨rfl, hf, by intro p hp; rw [hY p hp, show e = tb_ne w h by omega]; rfl⟩)
      · exact absurd c30 (by omega)
    | succ k ih =>
      intro e o2 o3 o4 Y hk hf hY
      have hE := xs_fi hf 21 3 hT.2.2.2.2.1
      have he : e < tb_ne w h := by omega
      have hT' := rf_fr hT hf
      have h1 := hT'.2.2.2.2.2.2.1 e he
      have h2 := hT'.2.2.2.2.2.2.2.1 e he
      have h3 := rf_sfr hS hf (by decide) e he
      have hi : vp_in (nI e) 40 := vp_inN (by omega) (by decide)
      have hb := tb_ends hT.1 e he
      have ha1 := hY _ hb.1
      have ha2 := hY _ hb.2.1
      have hi1 : vp_in (nI (tb_one w h e)) 25 := vp_inN (by omega) (by decide)
      have hi2 : vp_in (nI (tb_oth w h e)) 25 := vp_inN (by omega) (by decide)
      have hla : tb_lab w h (tb_isL st) e (tb_one w h e) < 25 := by have := tb_lab_le w h (tb_isL st) e (tb_one w h e); omega
      have hlb : tb_lab w h (tb_isL st) e (tb_oth w h e) < 25 := by have := tb_lab_le w h (tb_isL st) e (tb_oth w h e); omega
      -- past the edge
      have hx : ∀ (o2 o3 o4 : Option Value) (Z : xs_T), xs_fr [34] [] X Z → (∀ p, p < tb_np w h → Z.2.2.1 34 p = nI (tb_lab w h (tb_isL st) (e + 1) p)) → jq_J l G mX6_labels (jq_R 1 0 0) jq_E0 (xs_Ye G n ad (xs_pv (fun X' => xs_fr [34] [] X X' ∧ rf_L w h (tb_isL st) X'))) 217 [some (.ref (ad 21)), some (.int (nI (e))), o2, o3, o4] [] n ad (xs_mem G ad Z) 0 0 := by
        intro o2 o3 o4 Z hfZ hZ
        refine jq_iincN dX6_labels_217 (by decide) rfl rfl rfl ?_
        refine jq_goto (tgt := 25) dX6_labels_220 (by decide) ?_
        exact ih (e + 1) _ _ _ Z (by omega) hfZ hZ
      have hskip : ¬ (tb_isL st e = true ∧ tb_lab w h (tb_isL st) e (tb_one w h e) ≠ tb_lab w h (tb_isL st) e (tb_oth w h e)) → ∀ (o2 o3 o4 : Option Value), jq_J l G mX6_labels (jq_R 1 0 0) jq_E0 (xs_Ye G n ad (xs_pv (fun X' => xs_fr [34] [] X X' ∧ rf_L w h (tb_isL st) X'))) 217 [some (.ref (ad 21)), some (.int (nI (e))), o2, o3, o4] [] n ad (xs_mem G ad Y) 0 0 := by
        intro hno o2 o3 o4
        exact hx _ _ _ Y hf (fun p hp => by rw [hY p hp, tb_lab_n hno])
      generalize hA : tb_lab w h (tb_isL st) e (tb_one w h e) = a at *
      generalize hB : tb_lab w h (tb_isL st) e (tb_oth w h e) = b at *
      have hlh := tb_lohi hla hlb
      -- the inner loop
      have h169 : tb_isL st e = true → a ≠ b → ∀ (o3 o4 : Option Value), jq_J l G mX6_labels (jq_R 1 0 0) jq_E0 (xs_Ye G n ad (xs_pv (fun X' => xs_fr [34] [] X X' ∧ rf_L w h (tb_isL st) X'))) 169 [some (.ref (ad 21)), some (.int (nI (e))), some (.int (nI (tb_lo a b))), o3, o4] [.int (nI (tb_hi a b))] n ad (xs_mem G ad Y) 0 0 := by
        intro hL hab o3 o4
        have loop3 : ∀ (k p : Nat) (Z : xs_T), p + k = tb_np w h → xs_fr [34] [] X Z → (∀ j, j < p → Z.2.2.1 34 j = nI (tb_lab w h (tb_isL st) (e + 1) j)) → (∀ j, p ≤ j → j < tb_np w h → Z.2.2.1 34 j = nI (tb_lab w h (tb_isL st) e j)) → jq_J l G mX6_labels (jq_R 1 0 0) jq_E0 (xs_Ye G n ad (xs_pv (fun X' => xs_fr [34] [] X X' ∧ rf_L w h (tb_isL st) X'))) 173 [some (.ref (ad 21)), some (.int (nI (e))), some (.int (nI (tb_lo a b))), some (.int (nI (tb_hi a b))), some (.int (nI (p)))] [] n ad (xs_mem G ad Z) 0 0 := by
          intro k
          induction k with
          | zero =>
            intro p Z hk hfZ hZ1 hZ2
            have hP := xs_fi hfZ 21 4 hT.2.2.2.2.2.1
            refine jq_iload dX6_labels_173 rfl ?_
            refine jq_aload_n dX6_labels_175 rfl rfl ?_
            refine xq_getI fX6_83 dX6_labels_176 (xs_lt (by decide) hn) (by decide) hP ?_
            refine jq_geN (tgt := 217) dX6_labels_179 (by decide) ⟨by omega, by omega⟩ (fun c179 => ?_) (fun c179 => ?_)
            · exact hx _ _ _ Z hfZ (fun j hj => hZ1 j (by omega))
            · exact absurd c179 (by omega)
          | succ k ih3 =>
            intro p Z hk hfZ hZ1 hZ2
            have hP := xs_fi hfZ 21 4 hT.2.2.2.2.2.1
            have hp := hZ2 p (Nat.le_refl p) (by omega)
            have hpl := tb_lab_le w h (tb_isL st) e p
            have hip : vp_in (nI p) 25 := vp_inN (by omega) (by decide)
            have hnew : ∀ v : Int32, v = nI (tb_lab w h (tb_isL st) (e + 1) p) → jq_J l G mX6_labels (jq_R 1 0 0) jq_E0 (xs_Ye G n ad (xs_pv (fun X' => xs_fr [34] [] X X' ∧ rf_L w h (tb_isL st) X'))) 210 [some (.ref (ad 21)), some (.int (nI (e))), some (.int (nI (tb_lo a b))), some (.int (nI (tb_hi a b))), some (.int (nI (p)))] [.int (v), .int (nI (p)), .ref (ad 34)] n ad (xs_mem G ad Z) 0 0 := by
              intro v hv
              refine xq_iastore dX6_labels_210 (xs_lt (by decide) hn) rfl hip ?_
              refine jq_iincN dX6_labels_211 (by decide) rfl rfl rfl ?_
              refine jq_goto (tgt := 173) dX6_labels_214 (by decide) ?_
              refine ih3 (p + 1) _ (by omega) (xs_fr_ai hfZ (by decide)) (fun j hj => ?_) (fun j hj hj2 => ?_)
              · rw [xs_ai_at]
                rcases Nat.lt_or_ge j p with q | q
                · rw [xs_upd_ne (by omega) (by omega)]; exact hZ1 j q
                · rw [show j = p by omega, xs_upd_at (by omega), hv]
              · rw [xs_ai_at, xs_upd_ne (by omega) (by omega)]; exact hZ2 j (by omega) hj2
            have hrec := tb_lab_y hL (by rw [hA, hB]; exact hab) p
            rw [hA, hB] at hrec
            refine jq_iload dX6_labels_173 rfl ?_
            refine jq_aload_n dX6_labels_175 rfl rfl ?_
            refine xq_getI fX6_83 dX6_labels_176 (xs_lt (by decide) hn) (by decide) hP ?_
            refine jq_geN (tgt := 217) dX6_labels_179 (by decide) ⟨by omega, by omega⟩ (fun c179 => ?_) (fun c179 => ?_)
            · exact absurd c179 (by omega)
            · refine jq_aload_n dX6_labels_182 rfl rfl ?_
              refine xq_getR 34 fX6_46 dX6_labels_183 (xs_lt (by decide) hn) (by decide) ?_
              refine jq_iload dX6_labels_186 rfl ?_
              refine jq_aload_n dX6_labels_188 rfl rfl ?_
              refine xq_getR 34 fX6_46 dX6_labels_189 (xs_lt (by decide) hn) (by decide) ?_
              refine jq_iload dX6_labels_192 rfl ?_
              refine xq_iaload dX6_labels_194 (xs_lt (by decide) hn) rfl hip (xs_rd hp (by omega)) ?_
              refine jq_iload_n dX6_labels_195 rfl rfl ?_
              refine jq_neN (tgt := 203) dX6_labels_196 (by decide) ⟨by omega, by omega⟩ (fun c196 => ?_) (fun c196 => ?_)
              · refine jq_aload_n dX6_labels_203 rfl rfl ?_
                refine xq_getR 34 fX6_46 dX6_labels_204 (xs_lt (by decide) hn) (by decide) ?_
                refine jq_iload dX6_labels_207 rfl ?_
                refine xq_iaload dX6_labels_209 (xs_lt (by decide) hn) rfl hip (xs_rd hp (by omega)) ?_
                exact hnew _ (by rw [hrec]; first | rw [if_pos c196] | rw [if_neg c196])
              · refine jq_iload_n dX6_labels_199 rfl rfl ?_
                refine jq_goto (tgt := 210) dX6_labels_200 (by decide) ?_
                exact hnew _ (by rw [hrec]; first | rw [if_pos c196] | rw [if_neg c196])
        refine jq_istore_n dX6_labels_169 rfl (by decide) rfl rfl ?_
        refine jq_iconst (v := (nI 0)) dX6_labels_170 (by decide) ?_
        refine jq_istore dX6_labels_171 (by decide) rfl rfl ?_
        exact loop3 (tb_np w h) 0 Y (by omega) hf (fun j hj => absurd hj (Nat.not_lt_zero j)) (fun j _ hj => hY j hj)
      have h118 : tb_isL st e = true → a ≠ b → ∀ (o2 o3 o4 : Option Value), jq_J l G mX6_labels (jq_R 1 0 0) jq_E0 (xs_Ye G n ad (xs_pv (fun X' => xs_fr [34] [] X X' ∧ rf_L w h (tb_isL st) X'))) 118 [some (.ref (ad 21)), some (.int (nI (e))), o2, o3, o4] [.int (nI (tb_lo a b))] n ad (xs_mem G ad Y) 0 0 := by
        intro hL hab o2 o3 o4
        refine jq_istore_n dX6_labels_118 rfl (by decide) rfl rfl ?_
        refine jq_aload_n dX6_labels_119 rfl rfl ?_
        refine xq_getR 34 fX6_46 dX6_labels_120 (xs_lt (by decide) hn) (by decide) ?_
        refine jq_aload_n dX6_labels_123 rfl rfl ?_
        refine xq_getR 22 fX6_7 dX6_labels_124 (xs_lt (by decide) hn) (by decide) ?_
        refine jq_iload_n dX6_labels_127 rfl rfl ?_
        refine xq_iaload dX6_labels_128 (xs_lt (by decide) hn) rfl hi (xs_rd h1 (by omega)) ?_
        refine xq_iaload dX6_labels_129 (xs_lt (by decide) hn) rfl hi1 (xs_rd ha1 (by omega)) ?_
        refine jq_aload_n dX6_labels_130 rfl rfl ?_
        refine xq_getR 34 fX6_46 dX6_labels_131 (xs_lt (by decide) hn) (by decide) ?_
        refine jq_aload_n dX6_labels_134 rfl rfl ?_
        refine xq_getR 23 fX6_13 dX6_labels_135 (xs_lt (by decide) hn) (by decide) ?_
        refine jq_iload_n dX6_labels_138 rfl rfl ?_
        refine xq_iaload dX6_labels_139 (xs_lt (by decide) hn) rfl hi (xs_rd h2 (by omega)) ?_
        refine xq_iaload dX6_labels_140 (xs_lt (by decide) hn) rfl hi2 (xs_rd ha2 (by omega)) ?_
        refine jq_geN (tgt := 158) dX6_labels_141 (by decide) ⟨by omega, by omega⟩ (fun c141 => ?_) (fun c141 => ?_)
        · refine jq_aload_n dX6_labels_158 rfl rfl ?_
          refine xq_getR 34 fX6_46 dX6_labels_159 (xs_lt (by decide) hn) (by decide) ?_
          refine jq_aload_n dX6_labels_162 rfl rfl ?_
          refine xq_getR 22 fX6_7 dX6_labels_163 (xs_lt (by decide) hn) (by decide) ?_
          refine jq_iload_n dX6_labels_166 rfl rfl ?_
          refine xq_iaload dX6_labels_167 (xs_lt (by decide) hn) rfl hi (xs_rd h1 (by omega)) ?_
          refine xq_iaload dX6_labels_168 (xs_lt (by decide) hn) rfl hi1 (xs_rd ha1 (by omega)) ?_
          exact xs_nm (congrArg nI (by first | exact tb_hi_t c141 | exact tb_hi_f c141)) (h169 hL hab _ _)
        · refine jq_aload_n dX6_labels_144 rfl rfl ?_
          refine xq_getR 34 fX6_46 dX6_labels_145 (xs_lt (by decide) hn) (by decide) ?_
          refine jq_aload_n dX6_labels_148 rfl rfl ?_
          refine xq_getR 23 fX6_13 dX6_labels_149 (xs_lt (by decide) hn) (by decide) ?_
          refine jq_iload_n dX6_labels_152 rfl rfl ?_
          refine xq_iaload dX6_labels_153 (xs_lt (by decide) hn) rfl hi (xs_rd h2 (by omega)) ?_
          refine xq_iaload dX6_labels_154 (xs_lt (by decide) hn) rfl hi2 (xs_rd ha2 (by omega)) ?_
          refine jq_goto (tgt := 169) dX6_labels_155 (by decide) ?_
          exact xs_nm (congrArg nI (by first | exact tb_hi_t c141 | exact tb_hi_f c141)) (h169 hL hab _ _)
      refine jq_iload_n dX6_labels_25 rfl rfl ?_
      refine jq_aload_n dX6_labels_26 rfl rfl ?_
      refine xq_getI fX6_74 dX6_labels_27 (xs_lt (by decide) hn) (by decide) hE ?_
      refine jq_geN (tgt := 223) dX6_labels_30 (by decide) ⟨by omega, by omega⟩ (fun c30 => ?_) (fun c30 => ?_)
      · exact absurd c30 (by omega)
      · refine jq_aload_n dX6_labels_33 rfl rfl ?_
        refine xq_getR 29 fX6_31 dX6_labels_34 (xs_lt (by decide) hn) (by decide) ?_
        refine jq_iload_n dX6_labels_37 rfl rfl ?_
        refine xq_iaload dX6_labels_38 (xs_lt (by decide) hn) rfl hi (xs_rd h3.1 (by omega)) ?_
        refine jq_iconst (v := (nI 1)) dX6_labels_39 (by decide) ?_
        refine jq_neN (tgt := 217) dX6_labels_40 (by decide) ⟨by omega, by omega⟩ (fun c40 => ?_) (fun c40 => ?_)
        · exact hskip (by simp [tb_isL, c40]) _ _ _
        · have hL : tb_isL st e = true := by simp [tb_isL, c40]
          refine jq_aload_n dX6_labels_43 rfl rfl ?_
          refine xq_getR 34 fX6_46 dX6_labels_44 (xs_lt (by decide) hn) (by decide) ?_
          refine jq_aload_n dX6_labels_47 rfl rfl ?_
          refine xq_getR 22 fX6_7 dX6_labels_48 (xs_lt (by decide) hn) (by decide) ?_
          refine jq_iload_n dX6_labels_51 rfl rfl ?_
          refine xq_iaload dX6_labels_52 (xs_lt (by decide) hn) rfl hi (xs_rd h1 (by omega)) ?_
          refine xq_iaload dX6_labels_53 (xs_lt (by decide) hn) rfl hi1 (xs_rd ha1 (by omega)) ?_
          refine jq_aload_n dX6_labels_54 rfl rfl ?_
          refine xq_getR 34 fX6_46 dX6_labels_55 (xs_lt (by decide) hn) (by decide) ?_
          refine jq_aload_n dX6_labels_58 rfl rfl ?_
          refine xq_getR 23 fX6_13 dX6_labels_59 (xs_lt (by decide) hn) (by decide) ?_
          refine jq_iload_n dX6_labels_62 rfl rfl ?_
          refine xq_iaload dX6_labels_63 (xs_lt (by decide) hn) rfl hi (xs_rd h2 (by omega)) ?_
          refine xq_iaload dX6_labels_64 (xs_lt (by decide) hn) rfl hi2 (xs_rd ha2 (by omega)) ?_
          refine jq_eqN (tgt := 217) dX6_labels_65 (by decide) ⟨by omega, by omega⟩ (fun c65 => ?_) (fun c65 => ?_)
          · exact hskip (fun q => q.2 c65) _ _ _
          · refine jq_aload_n dX6_labels_68 rfl rfl ?_
            refine xq_getR 34 fX6_46 dX6_labels_69 (xs_lt (by decide) hn) (by decide) ?_
            refine jq_aload_n dX6_labels_72 rfl rfl ?_
            refine xq_getR 22 fX6_7 dX6_labels_73 (xs_lt (by decide) hn) (by decide) ?_
            refine jq_iload_n dX6_labels_76 rfl rfl ?_
            refine xq_iaload dX6_labels_77 (xs_lt (by decide) hn) rfl hi (xs_rd h1 (by omega)) ?_
            refine xq_iaload dX6_labels_78 (xs_lt (by decide) hn) rfl hi1 (xs_rd ha1 (by omega)) ?_
            refine jq_aload_n dX6_labels_79 rfl rfl ?_
            refine xq_getR 34 fX6_46 dX6_labels_80 (xs_lt (by decide) hn) (by decide) ?_
            refine jq_aload_n dX6_labels_83 rfl rfl ?_
            refine xq_getR 23 fX6_13 dX6_labels_84 (xs_lt (by decide) hn) (by decide) ?_
            refine jq_iload_n dX6_labels_87 rfl rfl ?_
            refine xq_iaload dX6_labels_88 (xs_lt (by decide) hn) rfl hi (xs_rd h2 (by omega)) ?_
            refine xq_iaload dX6_labels_89 (xs_lt (by decide) hn) rfl hi2 (xs_rd ha2 (by omega)) ?_
            refine jq_geN (tgt := 107) dX6_labels_90 (by decide) ⟨by omega, by omega⟩ (fun c90 => ?_) (fun c90 => ?_)
            · refine jq_aload_n dX6_labels_107 rfl rfl ?_
              refine xq_getR 34 fX6_46 dX6_labels_108 (xs_lt (by decide) hn) (by decide) ?_
              refine jq_aload_n dX6_labels_111 rfl rfl ?_
              refine xq_getR 23 fX6_13 dX6_labels_112 (xs_lt (by decide) hn) (by decide) ?_
              refine jq_iload_n dX6_labels_115 rfl rfl ?_
              refine xq_iaload dX6_labels_116 (xs_lt (by decide) hn) rfl hi (xs_rd h2 (by omega)) ?_
              refine xq_iaload dX6_labels_117 (xs_lt (by decide) hn) rfl hi2 (xs_rd ha2 (by omega)) ?_
              exact xs_nm (congrArg nI (by first | exact tb_lo_t c90 | exact tb_lo_f c90)) (h118 hL c65 _ _ _)
            · refine jq_aload_n dX6_labels_93 rfl rfl ?_
              refine xq_getR 34 fX6_46 dX6_labels_94 (xs_lt (by decide) hn) (by decide) ?_
              refine jq_aload_n dX6_labels_97 rfl rfl ?_
              refine xq_getR 22 fX6_7 dX6_labels_98 (xs_lt (by decide) hn) (by decide) ?_
              refine jq_iload_n dX6_labels_101 rfl rfl ?_
              refine xq_iaload dX6_labels_102 (xs_lt (by decide) hn) rfl hi (xs_rd h1 (by omega)) ?_
              refine xq_iaload dX6_labels_103 (xs_lt (by decide) hn) rfl hi1 (xs_rd ha1 (by omega)) ?_
              refine jq_goto (tgt := 118) dX6_labels_104 (by decide) ?_
              exact xs_nm (congrArg nI (by first | exact tb_lo_t c90 | exact tb_lo_f c90)) (h118 hL c65 _ _ _)
  have loop1 : ∀ (k p : Nat) (Y : xs_T), p + k = tb_np w h → xs_fr [34] [] X Y → (∀ j, j < p → Y.2.2.1 34 j = nI j) → jq_J l G mX6_labels (jq_R 1 0 0) jq_E0 (xs_Ye G n ad (xs_pv (fun X' => xs_fr [34] [] X X' ∧ rf_L w h (tb_isL st) X'))) 2 [some (.ref (ad 21)), some (.int (nI (p))), none, none, none] [] n ad (xs_mem G ad Y) 0 0 := by
    intro k
    induction k with
    | zero =>
      intro p Y hk hf hY
      have hP := xs_fi hf 21 4 hT.2.2.2.2.2.1
      refine jq_iload_n dX6_labels_2 rfl rfl ?_
      refine jq_aload_n dX6_labels_3 rfl rfl ?_
      refine xq_getI fX6_83 dX6_labels_4 (xs_lt (by decide) hn) (by decide) hP ?_
      refine jq_geN (tgt := 23) dX6_labels_7 (by decide) ⟨by omega, by omega⟩ (fun c7 => ?_) (fun c7 => ?_)
      · refine jq_iconst (v := (nI 0)) dX6_labels_23 (by decide) ?_
        refine jq_istore_n dX6_labels_24 rfl (by decide) rfl rfl ?_
        exact loop2 (tb_ne w h) 0 _ _ _ Y (by omega) hf (fun j hj => hY j (by omega))
      · exact absurd c7 (by omega)
    | succ k ih =>
      intro p Y hk hf hY
      have hP := xs_fi hf 21 4 hT.2.2.2.2.2.1
      have hi : vp_in (nI p) 25 := vp_inN (by omega) (by decide)
      refine jq_iload_n dX6_labels_2 rfl rfl ?_
      refine jq_aload_n dX6_labels_3 rfl rfl ?_
      refine xq_getI fX6_83 dX6_labels_4 (xs_lt (by decide) hn) (by decide) hP ?_
      refine jq_geN (tgt := 23) dX6_labels_7 (by decide) ⟨by omega, by omega⟩ (fun c7 => ?_) (fun c7 => ?_)
      · exact absurd c7 (by omega)
      · refine jq_aload_n dX6_labels_10 rfl rfl ?_
        refine xq_getR 34 fX6_46 dX6_labels_11 (xs_lt (by decide) hn) (by decide) ?_
        refine jq_iload_n dX6_labels_14 rfl rfl ?_
        refine jq_iload_n dX6_labels_15 rfl rfl ?_
        refine xq_iastore dX6_labels_16 (xs_lt (by decide) hn) rfl hi ?_
        refine jq_iincN dX6_labels_17 (by decide) rfl rfl rfl ?_
        refine jq_goto (tgt := 2) dX6_labels_20 (by decide) ?_
        refine ih (p + 1) _ (by omega) (xs_fr_ai hf (by decide)) (fun j hj => ?_)
        rw [xs_ai_at]
        rcases Nat.lt_or_ge j p with q | q
        · rw [xs_upd_ne (by omega) (by omega)]; exact hY j q
        · rw [show j = p by omega, xs_upd_at (by omega)]
  refine xs_Ct_of (L := [some (.ref (ad 21)), none, none, none, none]) rfl (Nat.le_of_ble_eq_true rfl) rfl ?_
  refine jq_iconst (v := (nI 0)) dX6_labels_0 (by decide) ?_
  refine jq_istore_n dX6_labels_1 rfl (by decide) rfl rfl ?_
  exact loop1 (tb_np w h) 0 X (by omega) xs_fr_rf (fun j hj => absurd hj (Nat.not_lt_zero j))
end
section
/-! chains of areas on decided edges -/
def tb_ch (w h : Nat) (st : Nat → Nat) : Nat → (Nat → Nat) × (Nat → Bool) × Bool
  | 0 => (fun a => a, fun _ => false, true)
  | k + 1 =>
    let p := tb_ch w h st k
    let a := tb_are w h k
    let b := tb_bes w h k
    if st k = 0 then p else if p.1 a = p.1 b then (p.1, p.2.1, p.2.2 && ((p.2.1 a != p.2.1 b) == (st k == 1)))
      else (fun x => if p.1 x = p.1 b then p.1 a else p.1 x, fun x => if p.1 x = p.1 b then p.2.1 x != ((p.2.1 a != p.2.1 b) != (st k == 1)) else p.2.1 x, p.2.2)
theorem tb_ch_0 {w h : Nat} {st : Nat → Nat} {k : Nat} (h0 : st k = 0) : tb_ch w h st (k + 1) = tb_ch w h st k := by rw [tb_ch]; exact if_pos h0
theorem tb_ch_s {w h : Nat} {st : Nat → Nat} {k : Nat} (h0 : st k ≠ 0) (h1 : (tb_ch w h st k).1 (tb_are w h k) = (tb_ch w h st k).1 (tb_bes w h k)) : tb_ch w h st (k + 1) = ((tb_ch w h st k).1, (tb_ch w h st k).2.1, (tb_ch w h st k).2.2 && (((tb_ch w h st k).2.1 (tb_are w h k) != (tb_ch w h st k).2.1 (tb_bes w h k)) == (st k == 1))) := by
  rw [tb_ch]
  exact (if_neg h0).trans (if_pos h1)
theorem tb_ch_d {w h : Nat} {st : Nat → Nat} {k : Nat} (h0 : st k ≠ 0) (h1 : (tb_ch w h st k).1 (tb_are w h k) ≠ (tb_ch w h st k).1 (tb_bes w h k)) : tb_ch w h st (k + 1) = (fun x => if (tb_ch w h st k).1 x = (tb_ch w h st k).1 (tb_bes w h k) then (tb_ch w h st k).1 (tb_are w h k) else (tb_ch w h st k).1 x, fun x => if (tb_ch w h st k).1 x = (tb_ch w h st k).1 (tb_bes w h k) then (tb_ch w h st k).2.1 x != (((tb_ch w h st k).2.1 (tb_are w h k) != (tb_ch w h st k).2.1 (tb_bes w h k)) != (st k == 1)) else (tb_ch w h st k).2.1 x, (tb_ch w h st k).2.2) := by
  rw [tb_ch]
  exact (if_neg h0).trans (if_neg h1)
theorem tb_ch_le {w h : Nat} (hW : tb_W w h) (st : Nat → Nat) : ∀ k, k ≤ tb_ne w h → ∀ x, x ≤ tb_nc w h → (tb_ch w h st k).1 x ≤ tb_nc w h
  | 0, _, x, hx => hx
  | k + 1, hk, x, hx => by
    have ih := tb_ch_le hW st k (by omega)
    have hb := tb_ends hW k (by omega)
    by_cases h0 : st k = 0
    · rw [tb_ch_0 h0]; exact ih x hx
    · by_cases h1 : (tb_ch w h st k).1 (tb_are w h k) = (tb_ch w h st k).1 (tb_bes w h k)
      · rw [tb_ch_s h0 h1]; exact ih x hx
      · rw [tb_ch_d h0 h1]
        show (if _ then _ else _) ≤ _
        split
        · exact ih _ hb.2.2.2.1
        · exact ih x hx
def tb_fine (w h : Nat) (st : Nat → Nat) : Bool := (tb_ch w h st (tb_ne w h)).2.2
def rf_C (w h : Nat) (st : Nat → Nat) (k : Nat) (X : xs_T) : Prop := ∀ a, a ≤ tb_nc w h → X.2.2.1 35 a = nI ((tb_ch w h st k).1 a) ∧ X.2.2.1 36 a = tb_b ((tb_ch w h st k).2.1 a)
theorem tb_nar (b : Bool) : vp_nar .boolean (tb_b b) = tb_b b := by cases b <;> rfl
theorem tb_b_eq {a b : Bool} : tb_b a = tb_b b ↔ a = b := by cases a <;> cases b <;> decide
theorem tb_range_all {p : Nat → Bool} {q : Nat} : (List.range (q + 1)).all p = ((List.range q).all p && p q) := by simp [List.range_succ]
theorem tb_b1e : (1 : Int32) = tb_b true := rfl
theorem tb_b0e : (0 : Int32) = tb_b false := rfl
theorem tb_narrow (b : Bool) : narrow .boolean (.int (tb_b b)) = .int (tb_b b) := by cases b <;> rfl
end
section
set_option maxHeartbeats 4000000 in
theorem c_X6_hasLoop {l : Launch} {G : jq_G} {n : Nat} {ad : Nat → Nat} {X : xs_T} (hn : 39 ≤ n) {w h : Nat} {st : Nat → Nat} (hT : rf_T w h X) (hS : rf_S w h st X) (hL : rf_L w h (tb_isL st) X) : xs_Ct l G mX6_hasLoop 2 [.ref (ad 21)] n ad X (xs_pd (some (.int (tb_b (tb_hasLoop w h st)))) X) := by
  have hz := tb_sizes hT.1
  have loop : ∀ (k p : Nat) (o2 o3 : Option Value), p + k = tb_np w h → (∀ j, j < p → tb_closed w h st j = false) → jq_J l G mX6_hasLoop (jq_R 2 0 0) jq_E0 (xs_Ye G n ad (xs_pd (some (.int (tb_b (tb_hasLoop w h st)))) X)) 2 [some (.ref (ad 21)), some (.int (nI (p))), o2, o3] [] n ad (xs_mem G ad X) 0 0 := by
    intro k
    induction k with
    | zero =>
      intro p o2 o3 hk hc
      refine jq_iload_n dX6_hasLoop_2 rfl rfl ?_
      refine jq_aload_n dX6_hasLoop_3 rfl rfl ?_
      refine xq_getI fX6_83 dX6_hasLoop_4 (xs_lt (by decide) hn) (by decide) hT.2.2.2.2.2.1 ?_
      refine jq_geN (tgt := 93) dX6_hasLoop_7 (by decide) ⟨by omega, by omega⟩ (fun c7 => ?_) (fun c7 => ?_)
      · refine jq_iconst (v := 0) dX6_hasLoop_93 (by decide) ?_
        exact xq_ireturn dX6_hasLoop_94 rfl rfl (⟨tb_vf (tb_anyF (by rw [show tb_np w h = p by omega]; exact hc)), rfl⟩)
      · exact absurd c7 (by omega)
    | succ k ih =>
      intro p o2 o3 hk hc
      have h3 := hL p (by omega)
      have hl := tb_L_lt (S := tb_isL st) (show p < tb_np w h by omega)
      have hd := tb_at_le hT.1 st p 1
      have hi : vp_in (nI p) 25 := vp_inN (by omega) (by decide)
      have h81 : ∀ o3 : Option Value, jq_J l G mX6_hasLoop (jq_R 2 0 0) jq_E0 (xs_Ye G n ad (xs_pd (some (.int (tb_b (tb_hasLoop w h st)))) X)) 81 [some (.ref (ad 21)), some (.int (nI (p))), some (.int (tb_b (tb_closed w h st p))), o3] [] n ad (xs_mem G ad X) 0 0 := by
        intro o3
        refine jq_iload_n dX6_hasLoop_81 rfl rfl ?_
        refine jq_if_eq (tgt := 87) dX6_hasLoop_82 (by decide) (fun c82 => ?_) (fun c82 => ?_)
        · refine jq_iincN dX6_hasLoop_87 (by decide) rfl rfl rfl ?_
          refine jq_goto (tgt := 2) dX6_hasLoop_90 (by decide) ?_
          refine ih (p + 1) _ _ (by omega) (fun j hj => ?_)
          rcases Nat.lt_or_ge j p with q | q
          · exact hc j q
          · rw [show j = p by omega]; exact tb_b0.mp c82
        · refine jq_iconst (v := 1) dX6_hasLoop_85 (by decide) ?_
          exact xq_ireturn dX6_hasLoop_86 rfl rfl (⟨tb_vt (tb_anyT (c := p) (by omega) (tb_b1.mp c82)), rfl⟩)
      have h34 : ∀ o3 : Option Value, jq_J l G mX6_hasLoop (jq_R 2 0 0) jq_E0 (xs_Ye G n ad (xs_pd (some (.int (tb_b (tb_hasLoop w h st)))) X)) 34 [some (.ref (ad 21)), some (.int (nI (p))), o2, o3] [.int (tb_b (tb_wayB w h st p))] n ad (xs_mem G ad X) 0 0 := by
        intro o3
        have loop2 : ∀ (k q : Nat), q + k = tb_np w h → jq_J l G mX6_hasLoop (jq_R 2 0 0) jq_E0 (xs_Ye G n ad (xs_pd (some (.int (tb_b (tb_hasLoop w h st)))) X)) 37 [some (.ref (ad 21)), some (.int (nI (p))), some (.int (tb_b (tb_wayB w h st p && (List.range q).all (fun q => !(tb_L w h (tb_isL st) q == p) || tb_deg w h st q == 2)))), some (.int (nI (q)))] [] n ad (xs_mem G ad X) 0 0 := by
          intro k
          induction k with
          | zero =>
            intro q hk
            have e : tb_np w h = q := by omega
            have h81' := h81 (some (.int (nI q)))
            unfold tb_closed at h81'
            rw [e] at h81'
            refine jq_iload_n dX6_hasLoop_37 rfl rfl ?_
            refine jq_aload_n dX6_hasLoop_38 rfl rfl ?_
            refine xq_getI fX6_83 dX6_hasLoop_39 (xs_lt (by decide) hn) (by decide) hT.2.2.2.2.2.1 ?_
            refine jq_geN (tgt := 81) dX6_hasLoop_42 (by decide) ⟨by omega, by omega⟩ (fun c42 => ?_) (fun c42 => ?_)
            · exact h81'
            · exact absurd c42 (by omega)
          | succ k ih2 =>
            intro q hk
            have h3q := hL q (by omega)
            have hlq := tb_L_lt (S := tb_isL st) (show q < tb_np w h by omega)
            have hdq := tb_at_le hT.1 st q 1
            have hiq : vp_in (nI q) 25 := vp_inN (by omega) (by decide)
            have hgo := ih2 (q + 1) (by omega)
            rw [tb_range_all] at hgo
            generalize hR : (List.range q).all (fun q => !(tb_L w h (tb_isL st) q == p) || tb_deg w h st q == 2) = rr at *
            refine jq_iload_n dX6_hasLoop_37 rfl rfl ?_
            refine jq_aload_n dX6_hasLoop_38 rfl rfl ?_
            refine xq_getI fX6_83 dX6_hasLoop_39 (xs_lt (by decide) hn) (by decide) hT.2.2.2.2.2.1 ?_
            refine jq_geN (tgt := 81) dX6_hasLoop_42 (by decide) ⟨by omega, by omega⟩ (fun c42 => ?_) (fun c42 => ?_)
            · exact absurd c42 (by omega)
            · refine jq_iload_n dX6_hasLoop_45 rfl rfl ?_
              refine jq_if_eq (tgt := 81) dX6_hasLoop_46 (by decide) (fun c46 => ?_) (fun c46 => ?_)
              · have hcf := tb_b0.mp c46
                have e : tb_closed w h st p = false := by
                  unfold tb_closed
                  rcases Bool.and_eq_false_iff.mp hcf with z | z
                  · rw [z]; rfl
                  · rw [Bool.and_eq_false_iff]; right
                    rw [Bool.eq_false_iff]; intro y
                    have y2 : (List.range q).all (fun q => !(tb_L w h (tb_isL st) q == p) || tb_deg w h st q == 2) = true := tb_allT (fun c hc => tb_allI.mp y c (by omega))
                    rw [hR, z] at y2; cases y2
                rw [hcf, ← e]
                exact h81 _
              · have hcf := tb_b1.mp c46
                refine jq_aload_n dX6_hasLoop_49 rfl rfl ?_
                refine xq_getR 34 fX6_46 dX6_hasLoop_50 (xs_lt (by decide) hn) (by decide) ?_
                refine jq_iload_n dX6_hasLoop_53 rfl rfl ?_
                refine xq_iaload dX6_hasLoop_54 (xs_lt (by decide) hn) rfl hiq (xs_rd h3q (by omega)) ?_
                refine jq_iload_n dX6_hasLoop_55 rfl rfl ?_
                refine jq_neN (tgt := 69) dX6_hasLoop_56 (by decide) ⟨by omega, by omega⟩ (fun c56 => ?_) (fun c56 => ?_)
                · refine jq_iconst (v := 1) dX6_hasLoop_69 (by decide) ?_
                  refine jq_goto (tgt := 74) dX6_hasLoop_70 (by decide) ?_
                  refine jq_istore_n dX6_hasLoop_74 rfl (by decide) rfl rfl ?_
                  refine jq_iincN dX6_hasLoop_75 (by decide) rfl rfl rfl ?_
                  refine jq_goto (tgt := 37) dX6_hasLoop_78 (by decide) ?_
                  rw [← Bool.and_assoc, hcf] at hgo
                  simp only [tb_deg] at hgo
                  first | (rw [show (!(tb_L w h (tb_isL st) q == p) || tb_at w h st q 1 == 2) = true by simp [*]] at hgo; exact hgo) | (rw [show (!(tb_L w h (tb_isL st) q == p) || tb_at w h st q 1 == 2) = false by simp [*]] at hgo; exact hgo)
                · refine jq_aload_n dX6_hasLoop_59 rfl rfl ?_
                  refine jq_iload_n dX6_hasLoop_60 rfl rfl ?_
                  refine jq_iconst (v := (nI 1)) dX6_hasLoop_61 (by decide) ?_
                  refine xq_vI dX6_hasLoop_62 kX6_114 (c_X6_at hn hT hS (by omega) (by decide)) (xs_lt (by decide) hn) ⟨rfl, rfl⟩ rfl rfl (Nat.le_of_ble_eq_true rfl) ⟨⟨by decide, by decide⟩, Nat.le_refl _, Nat.le_refl _⟩ ?_
                  refine jq_iconst (v := (nI 2)) dX6_hasLoop_65 (by decide) ?_
                  refine jq_neN (tgt := 73) dX6_hasLoop_66 (by decide) ⟨by omega, by omega⟩ (fun c66 => ?_) (fun c66 => ?_)
                  · refine jq_iconst (v := 0) dX6_hasLoop_73 (by decide) ?_
                    refine jq_istore_n dX6_hasLoop_74 rfl (by decide) rfl rfl ?_
                    refine jq_iincN dX6_hasLoop_75 (by decide) rfl rfl rfl ?_
                    refine jq_goto (tgt := 37) dX6_hasLoop_78 (by decide) ?_
                    rw [← Bool.and_assoc, hcf] at hgo
                    simp only [tb_deg] at hgo
                    first | (rw [show (!(tb_L w h (tb_isL st) q == p) || tb_at w h st q 1 == 2) = true by simp [*]] at hgo; exact hgo) | (rw [show (!(tb_L w h (tb_isL st) q == p) || tb_at w h st q 1 == 2) = false by simp [*]] at hgo; exact hgo)
                  · refine jq_iconst (v := 1) dX6_hasLoop_69 (by decide) ?_
                    refine jq_goto (tgt := 74) dX6_hasLoop_70 (by decide) ?_
                    refine jq_istore_n dX6_hasLoop_74 rfl (by decide) rfl rfl ?_
                    refine jq_iincN dX6_hasLoop_75 (by decide) rfl rfl rfl ?_
                    refine jq_goto (tgt := 37) dX6_hasLoop_78 (by decide) ?_
                    rw [← Bool.and_assoc, hcf] at hgo
                    simp only [tb_deg] at hgo
                    first | (rw [show (!(tb_L w h (tb_isL st) q == p) || tb_at w h st q 1 == 2) = true by simp [*]] at hgo; exact hgo) | (rw [show (!(tb_L w h (tb_isL st) q == p) || tb_at w h st q 1 == 2) = false by simp [*]] at hgo; exact hgo)
        refine jq_istore_n dX6_hasLoop_34 rfl (by decide) rfl rfl ?_
        refine jq_iconst (v := (nI 0)) dX6_hasLoop_35 (by decide) ?_
        refine jq_istore_n dX6_hasLoop_36 rfl (by decide) rfl rfl ?_
        have := loop2 (tb_np w h) 0 (by omega)
        simp only [List.range_zero, List.all_nil, Bool.and_true] at this
        exact this
      refine jq_iload_n dX6_hasLoop_2 rfl rfl ?_
      refine jq_aload_n dX6_hasLoop_3 rfl rfl ?_
      refine xq_getI fX6_83 dX6_hasLoop_4 (xs_lt (by decide) hn) (by decide) hT.2.2.2.2.2.1 ?_
      refine jq_geN (tgt := 93) dX6_hasLoop_7 (by decide) ⟨by omega, by omega⟩ (fun c7 => ?_) (fun c7 => ?_)
      · exact absurd c7 (by omega)
      · refine jq_aload_n dX6_hasLoop_10 rfl rfl ?_
        refine xq_getR 34 fX6_46 dX6_hasLoop_11 (xs_lt (by decide) hn) (by decide) ?_
        refine jq_iload_n dX6_hasLoop_14 rfl rfl ?_
        refine xq_iaload dX6_hasLoop_15 (xs_lt (by decide) hn) rfl hi (xs_rd h3 (by omega)) ?_
        refine jq_iload_n dX6_hasLoop_16 rfl rfl ?_
        refine jq_neN (tgt := 33) dX6_hasLoop_17 (by decide) ⟨by omega, by omega⟩ (fun c17 => ?_) (fun c17 => ?_)
        · refine jq_iconst (v := 0) dX6_hasLoop_33 (by decide) ?_
          exact xs_nm (by first | exact tb_b_t (by simp [tb_wayB, tb_deg, *]) | exact tb_b_f (by simp [tb_wayB, tb_deg, *])) (h34 _)
        · refine jq_aload_n dX6_hasLoop_20 rfl rfl ?_
          refine jq_iload_n dX6_hasLoop_21 rfl rfl ?_
          refine jq_iconst (v := (nI 1)) dX6_hasLoop_22 (by decide) ?_
          refine xq_vI dX6_hasLoop_23 kX6_114 (c_X6_at hn hT hS (by omega) (by decide)) (xs_lt (by decide) hn) ⟨rfl, rfl⟩ rfl rfl (Nat.le_of_ble_eq_true rfl) ⟨⟨by decide, by decide⟩, Nat.le_refl _, Nat.le_refl _⟩ ?_
          refine jq_leZ (tgt := 33) dX6_hasLoop_26 (by decide) (by omega) (fun c26 => ?_) (fun c26 => ?_)
          · refine jq_iconst (v := 0) dX6_hasLoop_33 (by decide) ?_
            exact xs_nm (by first | exact tb_b_t (by simp [tb_wayB, tb_deg, *]) | exact tb_b_f (by simp [tb_wayB, tb_deg, *])) (h34 _)
          · refine jq_iconst (v := 1) dX6_hasLoop_29 (by decide) ?_
            refine jq_goto (tgt := 34) dX6_hasLoop_30 (by decide) ?_
            exact xs_nm (by first | exact tb_b_t (by simp [tb_wayB, tb_deg, *]) | exact tb_b_f (by simp [tb_wayB, tb_deg, *])) (h34 _)
  refine xs_Ct_of (L := [some (.ref (ad 21)), none, none, none]) rfl (Nat.le_of_ble_eq_true rfl) rfl ?_
  refine jq_iconst (v := (nI 0)) dX6_hasLoop_0 (by decide) ?_
  refine jq_istore_n dX6_hasLoop_1 rfl (by decide) rfl rfl ?_
  exact loop (tb_np w h) 0 _ _ (by omega) (fun j hj => absurd hj (Nat.not_lt_zero j))
end
section
set_option maxHeartbeats 4000000 in
theorem c_X6_chains {l : Launch} {G : jq_G} {n : Nat} {ad : Nat → Nat} {X : xs_T} (hn : 39 ≤ n) {w h : Nat} {st : Nat → Nat} (hT : rf_T w h X) (hS : rf_S w h st X) : xs_Ct l G mX6_chains 1 [.ref (ad 21)] n ad X (xs_pi (fun v X' => v = tb_b (tb_fine w h st) ∧ xs_fr [35, 36] [] X X' ∧ rf_C w h st (tb_ne w h) X')) := by
  have hz := tb_sizes hT.1
  have loop2 : ∀ (k e : Nat) (o3 o4 o5 o6 o7 o8 : Option Value) (Y : xs_T), e + k = tb_ne w h → xs_fr [35, 36] [] X Y → rf_C w h st e Y → jq_J l G mX6_chains (jq_R 1 0 0) jq_E0 (xs_Ye G n ad (xs_pi (fun v X' => v = tb_b (tb_fine w h st) ∧ xs_fr [35, 36] [] X X' ∧ rf_C w h st (tb_ne w h) X'))) 34 [some (.ref (ad 21)), some (.int (tb_b (tb_ch w h st e).2.2)), some (.int (nI (e))), o3, o4, o5, o6, o7, o8] [] n ad (xs_mem G ad Y) 0 0 := by
    intro k
    induction k with
    | zero =>
      intro e o3 o4 o5 o6 o7 o8 Y hk hf hY
      have hE := xs_fi hf 21 3 hT.2.2.2.2.1
      have e1 : e = tb_ne w h := by omega
      subst e1
      refine jq_iload_n dX6_chains_34 rfl rfl ?_
      refine jq_aload_n dX6_chains_35 rfl rfl ?_
      refine xq_getI fX6_74 dX6_chains_36 (xs_lt (by decide) hn) (by decide) hE ?_
      refine jq_geN (tgt := 253) dX6_chains_39 (by decide) ⟨by omega, by omega⟩ (fun c39 => ?_) (fun c39 => ?_)
      · refine jq_iload_n dX6_chains_253 rfl rfl ?_
        exact xq_ireturn dX6_chains_254 rfl (tb_narrow _) (⟨_, rfl, rfl, hf, hY⟩)
      · exact absurd c39 (by omega)
    | succ k ih =>
      intro e o3 o4 o5 o6 o7 o8 Y hk hf hY
      have hE := xs_fi hf 21 3 hT.2.2.2.2.1
      have he : e < tb_ne w h := by omega
      have hT' := rf_fr hT hf
      have h1 := hT'.2.2.2.2.2.2.2.2.1 e he
      have h2 := hT'.2.2.2.2.2.2.2.2.2.1 e he
      have h3 := rf_sfr hS hf (by decide) e he
      have hi : vp_in (nI e) 40 := vp_inN (by omega) (by decide)
      have hb := tb_ends hT.1 e he
      have hle := tb_ch_le hT.1 st e (by omega)
      have hA := hY _ hb.2.2.2.1
      have hB := hY _ hb.2.2.2.2
      have hla := hle _ hb.2.2.2.1
      have hlb := hle _ hb.2.2.2.2
      have hia : vp_in (nI (tb_are w h e)) 17 := vp_inN (by omega) (by decide)
      have hib : vp_in (nI (tb_bes w h e)) 17 := vp_inN (by omega) (by decide)
      -- past the edge
      have hx : ∀ (o3 o4 o5 o6 o7 o8 : Option Value) (b : Bool) (Z : xs_T), b = (tb_ch w h st (e + 1)).2.2 → xs_fr [35, 36] [] X Z → rf_C w h st (e + 1) Z → jq_J l G mX6_chains (jq_R 1 0 0) jq_E0 (xs_Ye G n ad (xs_pi (fun v X' => v = tb_b (tb_fine w h st) ∧ xs_fr [35, 36] [] X X' ∧ rf_C w h st (tb_ne w h) X'))) 247 [some (.ref (ad 21)), some (.int (tb_b b)), some (.int (nI (e))), o3, o4, o5, o6, o7, o8] [] n ad (xs_mem G ad Z) 0 0 := by
        intro o3 o4 o5 o6 o7 o8 b Z hbb hfZ hZ
        subst hbb
        refine jq_iincN dX6_chains_247 (by decide) rfl rfl rfl ?_
        refine jq_goto (tgt := 34) dX6_chains_250 (by decide) ?_
        exact ih (e + 1) _ _ _ _ _ _ Z (by omega) hfZ hZ
      have h83 : st e ≠ 0 → jq_J l G mX6_chains (jq_R 1 0 0) jq_E0 (xs_Ye G n ad (xs_pi (fun v X' => v = tb_b (tb_fine w h st) ∧ xs_fr [35, 36] [] X X' ∧ rf_C w h st (tb_ne w h) X'))) 83 [some (.ref (ad 21)), some (.int (tb_b (tb_ch w h st e).2.2)), some (.int (nI (e))), some (.int (nI (tb_are w h e))), some (.int (nI (tb_bes w h e))), some (.int (tb_b (st e == 1))), o6, o7, o8] [] n ad (xs_mem G ad Y) 0 0 := by
        intro hne
        have h134 : (tb_ch w h st e).1 (tb_are w h e) = (tb_ch w h st e).1 (tb_bes w h e) → ∀ b : Bool, b = ((tb_ch w h st e).2.2 && (((tb_ch w h st e).2.1 (tb_are w h e) != (tb_ch w h st e).2.1 (tb_bes w h e)) == (st e == 1))) → jq_J l G mX6_chains (jq_R 1 0 0) jq_E0 (xs_Ye G n ad (xs_pi (fun v X' => v = tb_b (tb_fine w h st) ∧ xs_fr [35, 36] [] X X' ∧ rf_C w h st (tb_ne w h) X'))) 134 [some (.ref (ad 21)), some (.int (tb_b (tb_ch w h st e).2.2)), some (.int (nI (e))), some (.int (nI (tb_are w h e))), some (.int (nI (tb_bes w h e))), some (.int (tb_b (st e == 1))), o6, o7, o8] [.int (tb_b b)] n ad (xs_mem G ad Y) 0 0 := by
          intro hsm b hbb
          refine jq_istore_n dX6_chains_134 rfl (by decide) rfl rfl ?_
          refine jq_goto (tgt := 247) dX6_chains_135 (by decide) ?_
          exact hx _ _ _ _ _ _ b Y (by rw [hbb, tb_ch_s hne hsm]) hf (fun a ha => by rw [tb_ch_s hne hsm]; exact hY a ha)
        have h124 : (tb_ch w h st e).1 (tb_are w h e) = (tb_ch w h st e).1 (tb_bes w h e) → (tb_ch w h st e).2.2 = true → ∀ b : Bool, b = ((tb_ch w h st e).2.1 (tb_are w h e) != (tb_ch w h st e).2.1 (tb_bes w h e)) → jq_J l G mX6_chains (jq_R 1 0 0) jq_E0 (xs_Ye G n ad (xs_pi (fun v X' => v = tb_b (tb_fine w h st) ∧ xs_fr [35, 36] [] X X' ∧ rf_C w h st (tb_ne w h) X'))) 124 [some (.ref (ad 21)), some (.int (tb_b (tb_ch w h st e).2.2)), some (.int (nI (e))), some (.int (nI (tb_are w h e))), some (.int (nI (tb_bes w h e))), some (.int (tb_b (st e == 1))), o6, o7, o8] [.int (tb_b b)] n ad (xs_mem G ad Y) 0 0 := by
          intro hsm hff b hbb
          refine jq_iload dX6_chains_124 rfl ?_
          refine jq_icmp_ne (tgt := 133) dX6_chains_126 (by decide) (fun c126 => ?_) (fun c126 => ?_)
          · refine jq_iconst (v := 0) dX6_chains_133 (by decide) ?_
            exact xs_nm (by first | exact tb_b1e | exact tb_b0e) (h134 hsm _ (by rw [hff, ← hbb]; simp [tb_b_eq] at c126; simp [c126]))
          · refine jq_iconst (v := 1) dX6_chains_129 (by decide) ?_
            refine jq_goto (tgt := 134) dX6_chains_130 (by decide) ?_
            exact xs_nm (by first | exact tb_b1e | exact tb_b0e) (h134 hsm _ (by rw [hff, ← hbb]; simp [tb_b_eq] at c126; simp [c126]))
        have h178 : (tb_ch w h st e).1 (tb_are w h e) ≠ (tb_ch w h st e).1 (tb_bes w h e) → ∀ (o7 o8 : Option Value) (t : Bool), t = (((tb_ch w h st e).2.1 (tb_are w h e) != (tb_ch w h st e).2.1 (tb_bes w h e)) != (st e == 1)) → jq_J l G mX6_chains (jq_R 1 0 0) jq_E0 (xs_Ye G n ad (xs_pi (fun v X' => v = tb_b (tb_fine w h st) ∧ xs_fr [35, 36] [] X X' ∧ rf_C w h st (tb_ne w h) X'))) 178 [some (.ref (ad 21)), some (.int (tb_b (tb_ch w h st e).2.2)), some (.int (nI (e))), some (.int (nI (tb_are w h e))), some (.int (nI (tb_bes w h e))), some (.int (tb_b (st e == 1))), some (.int (nI ((tb_ch w h st e).1 (tb_bes w h e)))), o7, o8] [.int (tb_b t)] n ad (xs_mem G ad Y) 0 0 := by
          intro hdf o7 o8 t ht
          have loop3 : ∀ (k p : Nat) (Z : xs_T), p + k = tb_nc w h + 1 → xs_fr [35, 36] [] X Z → (∀ a, a < p → Z.2.2.1 35 a = nI ((tb_ch w h st (e + 1)).1 a) ∧ Z.2.2.1 36 a = tb_b ((tb_ch w h st (e + 1)).2.1 a)) → (∀ a, p ≤ a → a ≤ tb_nc w h → Z.2.2.1 35 a = nI ((tb_ch w h st e).1 a) ∧ Z.2.2.1 36 a = tb_b ((tb_ch w h st e).2.1 a)) → jq_J l G mX6_chains (jq_R 1 0 0) jq_E0 (xs_Ye G n ad (xs_pi (fun v X' => v = tb_b (tb_fine w h st) ∧ xs_fr [35, 36] [] X X' ∧ rf_C w h st (tb_ne w h) X'))) 183 [some (.ref (ad 21)), some (.int (tb_b (tb_ch w h st e).2.2)), some (.int (nI (e))), some (.int (nI (tb_are w h e))), some (.int (nI (tb_bes w h e))), some (.int (tb_b (st e == 1))), some (.int (nI ((tb_ch w h st e).1 (tb_bes w h e)))), some (.int (tb_b t)), some (.int (nI (p)))] [] n ad (xs_mem G ad Z) 0 0 := by
            intro k
            induction k with
            | zero =>
              intro p Z hk hfZ hZ1 hZ2
              have hC := xs_fi hfZ 21 2 hT.2.2.2.1
              refine jq_iload dX6_chains_183 rfl ?_
              refine jq_aload_n dX6_chains_185 rfl rfl ?_
              refine xq_getI fX6_71 dX6_chains_186 (xs_lt (by decide) hn) (by decide) hC ?_
              refine jq_gtN (tgt := 247) dX6_chains_189 (by decide) ⟨by omega, by omega⟩ (fun c189 => ?_) (fun c189 => ?_)
              · exact hx _ _ _ _ _ _ _ Z (by rw [tb_ch_d hne hdf]) hfZ (fun a ha => hZ1 a (by omega))
              · exact absurd c189 (by omega)
            | succ k ih3 =>
              intro p Z hk hfZ hZ1 hZ2
              have hC := xs_fi hfZ 21 2 hT.2.2.2.1
              have hp := hZ2 p (Nat.le_refl p) (by omega)
              have hpl := hle p (by omega)
              have hip : vp_in (nI p) 17 := vp_inN (by omega) (by decide)
              have hnext : ∀ (Z2 : xs_T), xs_fr [35, 36] [] X Z2 → (∀ a, a ≠ p → Z2.2.2.1 35 a = Z.2.2.1 35 a ∧ Z2.2.2.1 36 a = Z.2.2.1 36 a) → (Z2.2.2.1 35 p = nI ((tb_ch w h st (e + 1)).1 p) ∧ Z2.2.2.1 36 p = tb_b ((tb_ch w h st (e + 1)).2.1 p)) → jq_J l G mX6_chains (jq_R 1 0 0) jq_E0 (xs_Ye G n ad (xs_pi (fun v X' => v = tb_b (tb_fine w h st) ∧ xs_fr [35, 36] [] X X' ∧ rf_C w h st (tb_ne w h) X'))) 241 [some (.ref (ad 21)), some (.int (tb_b (tb_ch w h st e).2.2)), some (.int (nI (e))), some (.int (nI (tb_are w h e))), some (.int (nI (tb_bes w h e))), some (.int (tb_b (st e == 1))), some (.int (nI ((tb_ch w h st e).1 (tb_bes w h e)))), some (.int (tb_b t)), some (.int (nI (p)))] [] n ad (xs_mem G ad Z2) 0 0 := by
                intro Z2 hf2 ho hv
                refine jq_iincN dX6_chains_241 (by decide) rfl rfl rfl ?_
                refine jq_goto (tgt := 183) dX6_chains_244 (by decide) ?_
                refine ih3 (p + 1) Z2 (by omega) hf2 (fun a ha => ?_) (fun a ha ha2 => ?_)
                · rcases Nat.lt_or_ge a p with q | q
                  · rw [(ho a (by omega)).1, (ho a (by omega)).2]; exact hZ1 a q
                  · rw [show a = p by omega]; exact hv
                · rw [(ho a (by omega)).1, (ho a (by omega)).2]; exact hZ2 a (by omega) ha2
              have hca : Z.2.2.1 35 (tb_are w h e) = nI ((tb_ch w h st e).1 (tb_are w h e)) := by
                rcases Nat.lt_or_ge (tb_are w h e) p with q | q
                · rw [(hZ1 _ q).1, tb_ch_d hne hdf]
                  show nI (if _ then _ else _) = _
                  rw [if_neg hdf]
                · exact (hZ2 _ q hb.2.2.2.1).1
              refine jq_iload dX6_chains_183 rfl ?_
              refine jq_aload_n dX6_chains_185 rfl rfl ?_
              refine xq_getI fX6_71 dX6_chains_186 (xs_lt (by decide) hn) (by decide) hC ?_
              refine jq_gtN (tgt := 247) dX6_chains_189 (by decide) ⟨by omega, by omega⟩ (fun c189 => ?_) (fun c189 => ?_)
              · exact absurd c189 (by omega)
              · refine jq_aload_n dX6_chains_192 rfl rfl ?_
                refine xq_getR 35 fX6_49 dX6_chains_193 (xs_lt (by decide) hn) (by decide) ?_
                refine jq_iload dX6_chains_196 rfl ?_
                refine xq_iaload dX6_chains_198 (xs_lt (by decide) hn) rfl hip (xs_rd hp.1 (by omega)) ?_
                refine jq_iload dX6_chains_199 rfl ?_
                refine jq_neN (tgt := 241) dX6_chains_201 (by decide) ⟨by omega, by omega⟩ (fun c201 => ?_) (fun c201 => ?_)
                · exact hnext Z hfZ (fun a _ => ⟨rfl, rfl⟩) ⟨by rw [hp.1, tb_ch_d hne hdf]; show _ = nI (if _ then _ else _); rw [if_neg c201], by rw [hp.2, tb_ch_d hne hdf]; show _ = tb_b (if _ then _ else _); rw [if_neg c201]⟩
                · refine jq_aload_n dX6_chains_204 rfl rfl ?_
                  refine xq_getR 35 fX6_49 dX6_chains_205 (xs_lt (by decide) hn) (by decide) ?_
                  refine jq_iload dX6_chains_208 rfl ?_
                  refine jq_aload_n dX6_chains_210 rfl rfl ?_
                  refine xq_getR 35 fX6_49 dX6_chains_211 (xs_lt (by decide) hn) (by decide) ?_
                  refine jq_iload_n dX6_chains_214 rfl rfl ?_
                  refine xq_iaload dX6_chains_215 (xs_lt (by decide) hn) rfl hia (xs_rd hca (by omega)) ?_
                  refine xq_iastore dX6_chains_216 (xs_lt (by decide) hn) rfl hip ?_
                  refine jq_aload_n dX6_chains_217 rfl rfl ?_
                  refine xq_getR 36 fX6_52 dX6_chains_218 (xs_lt (by decide) hn) (by decide) ?_
                  refine jq_iload dX6_chains_221 rfl ?_
                  refine jq_aload_n dX6_chains_223 rfl rfl ?_
                  refine xq_getR 36 fX6_52 dX6_chains_224 (xs_lt (by decide) hn) (by decide) ?_
                  refine jq_iload dX6_chains_227 rfl ?_
                  refine xq_baload dX6_chains_229 (xs_lt (by decide) hn) rfl hip (xs_rd (show (xs_ai Z 35 _).2.2.1 36 p = _ from hp.2) (by omega)) ?_
                  refine jq_iload dX6_chains_230 rfl ?_
                  refine jq_icmp_eq (tgt := 239) dX6_chains_232 (by decide) (fun c232 => ?_) (fun c232 => ?_)
                  · refine jq_iconst (v := 0) dX6_chains_239 (by decide) ?_
                    refine xq_bastore dX6_chains_240 (xs_lt (by decide) hn) rfl hip rfl ?_
                    refine hnext _ (xs_fr_ai (xs_fr_ai hfZ (by decide)) (by decide)) (fun a ha => ⟨?_, ?_⟩) ⟨?_, ?_⟩
                    · rw [xs_ai_ne (by decide), xs_ai_at, xs_upd_ne (by omega) ha]
                    · rw [xs_ai_at, xs_upd_ne (by omega) ha, xs_ai_ne (by decide)]
                    · rw [xs_ai_ne (by decide), xs_ai_at, xs_upd_at (by omega), tb_ch_d hne hdf]
                      show _ = nI (if _ then _ else _)
                      rw [if_pos c201]
                    · rw [xs_ai_at, xs_upd_at (by omega), tb_ch_d hne hdf]
                      show _ = tb_b (if _ then _ else _)
                      rw [if_pos c201, ← ht]
                      simp only [tb_b_eq] at c232
                      simp [c232, tb_b]; rfl
                  · refine jq_iconst (v := 1) dX6_chains_235 (by decide) ?_
                    refine jq_goto (tgt := 240) dX6_chains_236 (by decide) ?_
                    refine xq_bastore dX6_chains_240 (xs_lt (by decide) hn) rfl hip rfl ?_
                    refine hnext _ (xs_fr_ai (xs_fr_ai hfZ (by decide)) (by decide)) (fun a ha => ⟨?_, ?_⟩) ⟨?_, ?_⟩
                    · rw [xs_ai_ne (by decide), xs_ai_at, xs_upd_ne (by omega) ha]
                    · rw [xs_ai_at, xs_upd_ne (by omega) ha, xs_ai_ne (by decide)]
                    · rw [xs_ai_ne (by decide), xs_ai_at, xs_upd_at (by omega), tb_ch_d hne hdf]
                      show _ = nI (if _ then _ else _)
                      rw [if_pos c201]
                    · rw [xs_ai_at, xs_upd_at (by omega), tb_ch_d hne hdf]
                      show _ = tb_b (if _ then _ else _)
                      rw [if_pos c201, ← ht]
                      simp only [tb_b_eq] at c232
                      simp [c232, tb_b]; rfl
          refine jq_istore dX6_chains_178 (by decide) rfl rfl ?_
          refine jq_iconst (v := (nI 0)) dX6_chains_180 (by decide) ?_
          refine jq_istore dX6_chains_181 (by decide) rfl rfl ?_
          exact loop3 (tb_nc w h + 1) 0 Y (by omega) hf (fun a ha => absurd ha (Nat.not_lt_zero a)) (fun a _ ha => hY a ha)
        have h168 : (tb_ch w h st e).1 (tb_are w h e) ≠ (tb_ch w h st e).1 (tb_bes w h e) → ∀ (o7 o8 : Option Value) (t : Bool), t = ((tb_ch w h st e).2.1 (tb_are w h e) != (tb_ch w h st e).2.1 (tb_bes w h e)) → jq_J l G mX6_chains (jq_R 1 0 0) jq_E0 (xs_Ye G n ad (xs_pi (fun v X' => v = tb_b (tb_fine w h st) ∧ xs_fr [35, 36] [] X X' ∧ rf_C w h st (tb_ne w h) X'))) 168 [some (.ref (ad 21)), some (.int (tb_b (tb_ch w h st e).2.2)), some (.int (nI (e))), some (.int (nI (tb_are w h e))), some (.int (nI (tb_bes w h e))), some (.int (tb_b (st e == 1))), some (.int (nI ((tb_ch w h st e).1 (tb_bes w h e)))), o7, o8] [.int (tb_b t)] n ad (xs_mem G ad Y) 0 0 := by
          intro hdf o7 o8 t ht
          refine jq_iload dX6_chains_168 rfl ?_
          refine jq_icmp_eq (tgt := 177) dX6_chains_170 (by decide) (fun c170 => ?_) (fun c170 => ?_)
          · refine jq_iconst (v := 0) dX6_chains_177 (by decide) ?_
            exact xs_nm (by first | exact tb_b1e | exact tb_b0e) (h178 hdf _ _ _ (by rw [← ht]; simp only [tb_b_eq] at c170; simp [c170]))
          · refine jq_iconst (v := 1) dX6_chains_173 (by decide) ?_
            refine jq_goto (tgt := 178) dX6_chains_174 (by decide) ?_
            exact xs_nm (by first | exact tb_b1e | exact tb_b0e) (h178 hdf _ _ _ (by rw [← ht]; simp only [tb_b_eq] at c170; simp [c170]))
        refine jq_aload_n dX6_chains_83 rfl rfl ?_
        refine xq_getR 35 fX6_49 dX6_chains_84 (xs_lt (by decide) hn) (by decide) ?_
        refine jq_iload_n dX6_chains_87 rfl rfl ?_
        refine xq_iaload dX6_chains_88 (xs_lt (by decide) hn) rfl hia (xs_rd hA.1 (by omega)) ?_
        refine jq_aload_n dX6_chains_89 rfl rfl ?_
        refine xq_getR 35 fX6_49 dX6_chains_90 (xs_lt (by decide) hn) (by decide) ?_
        refine jq_iload dX6_chains_93 rfl ?_
        refine xq_iaload dX6_chains_95 (xs_lt (by decide) hn) rfl hib (xs_rd hB.1 (by omega)) ?_
        refine jq_neN (tgt := 138) dX6_chains_96 (by decide) ⟨by omega, by omega⟩ (fun c96 => ?_) (fun c96 => ?_)
        · refine jq_aload_n dX6_chains_138 rfl rfl ?_
          refine xq_getR 35 fX6_49 dX6_chains_139 (xs_lt (by decide) hn) (by decide) ?_
          refine jq_iload dX6_chains_142 rfl ?_
          refine xq_iaload dX6_chains_144 (xs_lt (by decide) hn) rfl hib (xs_rd hB.1 (by omega)) ?_
          refine jq_istore dX6_chains_145 (by decide) rfl rfl ?_
          refine jq_aload_n dX6_chains_147 rfl rfl ?_
          refine xq_getR 36 fX6_52 dX6_chains_148 (xs_lt (by decide) hn) (by decide) ?_
          refine jq_iload_n dX6_chains_151 rfl rfl ?_
          refine xq_baload dX6_chains_152 (xs_lt (by decide) hn) rfl hia (xs_rd hA.2 (by omega)) ?_
          refine jq_aload_n dX6_chains_153 rfl rfl ?_
          refine xq_getR 36 fX6_52 dX6_chains_154 (xs_lt (by decide) hn) (by decide) ?_
          refine jq_iload dX6_chains_157 rfl ?_
          refine xq_baload dX6_chains_159 (xs_lt (by decide) hn) rfl hib (xs_rd hB.2 (by omega)) ?_
          refine jq_icmp_eq (tgt := 167) dX6_chains_160 (by decide) (fun c160 => ?_) (fun c160 => ?_)
          · refine jq_iconst (v := 0) dX6_chains_167 (by decide) ?_
            exact xs_nm (by first | exact tb_b1e | exact tb_b0e) (h168 c96 _ _ _ (by simp only [tb_b_eq] at c160; simp [c160]))
          · refine jq_iconst (v := 1) dX6_chains_163 (by decide) ?_
            refine jq_goto (tgt := 168) dX6_chains_164 (by decide) ?_
            exact xs_nm (by first | exact tb_b1e | exact tb_b0e) (h168 c96 _ _ _ (by simp only [tb_b_eq] at c160; simp [c160]))
        · refine jq_iload_n dX6_chains_99 rfl rfl ?_
          refine jq_if_eq (tgt := 133) dX6_chains_100 (by decide) (fun c100 => ?_) (fun c100 => ?_)
          · have hff := tb_b0.mp c100
            refine jq_iconst (v := 0) dX6_chains_133 (by decide) ?_
            exact xs_nm tb_b0e (h134 c96 false (by rw [hff]; rfl))
          · have hff := tb_b1.mp c100
            refine jq_aload_n dX6_chains_103 rfl rfl ?_
            refine xq_getR 36 fX6_52 dX6_chains_104 (xs_lt (by decide) hn) (by decide) ?_
            refine jq_iload_n dX6_chains_107 rfl rfl ?_
            refine xq_baload dX6_chains_108 (xs_lt (by decide) hn) rfl hia (xs_rd hA.2 (by omega)) ?_
            refine jq_aload_n dX6_chains_109 rfl rfl ?_
            refine xq_getR 36 fX6_52 dX6_chains_110 (xs_lt (by decide) hn) (by decide) ?_
            refine jq_iload dX6_chains_113 rfl ?_
            refine xq_baload dX6_chains_115 (xs_lt (by decide) hn) rfl hib (xs_rd hB.2 (by omega)) ?_
            refine jq_icmp_eq (tgt := 123) dX6_chains_116 (by decide) (fun c116 => ?_) (fun c116 => ?_)
            · refine jq_iconst (v := 0) dX6_chains_123 (by decide) ?_
              exact xs_nm (by first | exact tb_b1e | exact tb_b0e) (h124 c96 hff _ (by simp only [tb_b_eq] at c116; simp [c116]))
            · refine jq_iconst (v := 1) dX6_chains_119 (by decide) ?_
              refine jq_goto (tgt := 124) dX6_chains_120 (by decide) ?_
              exact xs_nm (by first | exact tb_b1e | exact tb_b0e) (h124 c96 hff _ (by simp only [tb_b_eq] at c116; simp [c116]))
      refine jq_iload_n dX6_chains_34 rfl rfl ?_
      refine jq_aload_n dX6_chains_35 rfl rfl ?_
      refine xq_getI fX6_74 dX6_chains_36 (xs_lt (by decide) hn) (by decide) hE ?_
      refine jq_geN (tgt := 253) dX6_chains_39 (by decide) ⟨by omega, by omega⟩ (fun c39 => ?_) (fun c39 => ?_)
      · exact absurd c39 (by omega)
      · refine jq_aload_n dX6_chains_42 rfl rfl ?_
        refine xq_getR 29 fX6_31 dX6_chains_43 (xs_lt (by decide) hn) (by decide) ?_
        refine jq_iload_n dX6_chains_46 rfl rfl ?_
        refine xq_iaload dX6_chains_47 (xs_lt (by decide) hn) rfl hi (xs_rd h3.1 (by omega)) ?_
        refine jq_eqZ (tgt := 247) dX6_chains_48 (by decide) (by omega) (fun c48 => ?_) (fun c48 => ?_)
        · exact hx _ _ _ _ _ _ _ Y (by rw [tb_ch_0 c48]) hf (fun a ha => by rw [tb_ch_0 c48]; exact hY a ha)
        · refine jq_aload_n dX6_chains_51 rfl rfl ?_
          refine xq_getR 24 fX6_16 dX6_chains_52 (xs_lt (by decide) hn) (by decide) ?_
          refine jq_iload_n dX6_chains_55 rfl rfl ?_
          refine xq_iaload dX6_chains_56 (xs_lt (by decide) hn) rfl hi (xs_rd h1 (by omega)) ?_
          refine jq_istore_n dX6_chains_57 rfl (by decide) rfl rfl ?_
          refine jq_aload_n dX6_chains_58 rfl rfl ?_
          refine xq_getR 25 fX6_19 dX6_chains_59 (xs_lt (by decide) hn) (by decide) ?_
          refine jq_iload_n dX6_chains_62 rfl rfl ?_
          refine xq_iaload dX6_chains_63 (xs_lt (by decide) hn) rfl hi (xs_rd h2 (by omega)) ?_
          refine jq_istore dX6_chains_64 (by decide) rfl rfl ?_
          refine jq_aload_n dX6_chains_66 rfl rfl ?_
          refine xq_getR 29 fX6_31 dX6_chains_67 (xs_lt (by decide) hn) (by decide) ?_
          refine jq_iload_n dX6_chains_70 rfl rfl ?_
          refine xq_iaload dX6_chains_71 (xs_lt (by decide) hn) rfl hi (xs_rd h3.1 (by omega)) ?_
          refine jq_iconst (v := (nI 1)) dX6_chains_72 (by decide) ?_
          refine jq_neN (tgt := 80) dX6_chains_73 (by decide) ⟨by omega, by omega⟩ (fun c73 => ?_) (fun c73 => ?_)
          · refine jq_iconst (v := 0) dX6_chains_80 (by decide) ?_
            refine xs_nm (v' := tb_b (st e == 1)) (by first | exact tb_b_t (by simp [c73]) | exact tb_b_f (by simp [c73])) ?_
            refine jq_istore dX6_chains_81 (by decide) rfl rfl ?_
            exact h83 c48
          · refine jq_iconst (v := 1) dX6_chains_76 (by decide) ?_
            refine jq_goto (tgt := 81) dX6_chains_77 (by decide) ?_
            refine xs_nm (v' := tb_b (st e == 1)) (by first | exact tb_b_t (by simp [c73]) | exact tb_b_f (by simp [c73])) ?_
            refine jq_istore dX6_chains_81 (by decide) rfl rfl ?_
            exact h83 c48
  have loop1 : ∀ (k p : Nat) (Y : xs_T), p + k = tb_nc w h + 1 → xs_fr [35, 36] [] X Y → (∀ a, a < p → Y.2.2.1 35 a = nI a ∧ Y.2.2.1 36 a = tb_b false) → jq_J l G mX6_chains (jq_R 1 0 0) jq_E0 (xs_Ye G n ad (xs_pi (fun v X' => v = tb_b (tb_fine w h st) ∧ xs_fr [35, 36] [] X X' ∧ rf_C w h st (tb_ne w h) X'))) 2 [some (.ref (ad 21)), some (.int (nI (p))), none, none, none, none, none, none, none] [] n ad (xs_mem G ad Y) 0 0 := by
    intro k
    induction k with
    | zero =>
      intro p Y hk hf hY
      have hC := xs_fi hf 21 2 hT.2.2.2.1
      refine jq_iload_n dX6_chains_2 rfl rfl ?_
      refine jq_aload_n dX6_chains_3 rfl rfl ?_
      refine xq_getI fX6_71 dX6_chains_4 (xs_lt (by decide) hn) (by decide) hC ?_
      refine jq_gtN (tgt := 30) dX6_chains_7 (by decide) ⟨by omega, by omega⟩ (fun c7 => ?_) (fun c7 => ?_)
      · refine jq_iconst (v := 1) dX6_chains_30 (by decide) ?_
        refine jq_istore_n dX6_chains_31 rfl (by decide) rfl rfl ?_
        refine jq_iconst (v := (nI 0)) dX6_chains_32 (by decide) ?_
        refine jq_istore_n dX6_chains_33 rfl (by decide) rfl rfl ?_
        exact loop2 (tb_ne w h) 0 _ _ _ _ _ _ Y (by omega) hf (fun a ha => hY a (by omega))
      · exact absurd c7 (by omega)
    | succ k ih =>
      intro p Y hk hf hY
      have hC := xs_fi hf 21 2 hT.2.2.2.1
      have hi : vp_in (nI p) 17 := vp_inN (by omega) (by decide)
      refine jq_iload_n dX6_chains_2 rfl rfl ?_
      refine jq_aload_n dX6_chains_3 rfl rfl ?_
      refine xq_getI fX6_71 dX6_chains_4 (xs_lt (by decide) hn) (by decide) hC ?_
      refine jq_gtN (tgt := 30) dX6_chains_7 (by decide) ⟨by omega, by omega⟩ (fun c7 => ?_) (fun c7 => ?_)
      · exact absurd c7 (by omega)
      · refine jq_aload_n dX6_chains_10 rfl rfl ?_
        refine xq_getR 35 fX6_49 dX6_chains_11 (xs_lt (by decide) hn) (by decide) ?_
        refine jq_iload_n dX6_chains_14 rfl rfl ?_
        refine jq_iload_n dX6_chains_15 rfl rfl ?_
        refine xq_iastore dX6_chains_16 (xs_lt (by decide) hn) rfl hi ?_
        refine jq_aload_n dX6_chains_17 rfl rfl ?_
        refine xq_getR 36 fX6_52 dX6_chains_18 (xs_lt (by decide) hn) (by decide) ?_
        refine jq_iload_n dX6_chains_21 rfl rfl ?_
        refine jq_iconst (v := 0) dX6_chains_22 (by decide) ?_
        refine xq_bastore dX6_chains_23 (xs_lt (by decide) hn) rfl hi rfl ?_
        refine jq_iincN dX6_chains_24 (by decide) rfl rfl rfl ?_
        refine jq_goto (tgt := 2) dX6_chains_27 (by decide) ?_
        refine ih (p + 1) _ (by omega) (xs_fr_ai (xs_fr_ai hf (by decide)) (by decide)) (fun j hj => ?_)
        rw [xs_ai_at, xs_ai_ne (by decide), xs_ai_at]
        rcases Nat.lt_or_ge j p with q | q
        · rw [xs_upd_ne (by omega) (by omega), xs_upd_ne (by omega) (by omega)]; exact hY j q
        · rw [show j = p by omega, xs_upd_at (by omega), xs_upd_at (by omega)]; exact ⟨rfl, rfl⟩
  refine xs_Ct_of (L := [some (.ref (ad 21)), none, none, none, none, none, none, none, none]) rfl (Nat.le_of_ble_eq_true rfl) rfl ?_
  refine jq_iconst (v := (nI 0)) dX6_chains_0 (by decide) ?_
  refine jq_istore_n dX6_chains_1 rfl (by decide) rfl rfl ?_
  exact loop1 (tb_nc w h + 1) 0 X (by omega) xs_fr_rf (fun j hj => absurd hj (Nat.not_lt_zero j))
end
section
/-! when a state is broken -/
def tb_cellBad (w h : Nat) (num : Nat → Int32) (st : Nat → Nat) (c : Nat) : Bool := !(num c == -1) && (decide (num c < nI (tb_ar w h st c 1)) || decide (nI (tb_ar w h st c 1 + tb_ar w h st c 0) < num c))
def tb_ptBad (w h : Nat) (st : Nat → Nat) (p : Nat) : Bool := decide (2 < tb_deg w h st p) || (tb_deg w h st p == 1 && tb_at w h st p 0 == 0)
def tb_broken (w h : Nat) (num : Nat → Int32) (st : Nat → Nat) : Nat :=
  if (List.range (tb_nc w h)).any (tb_cellBad w h num st) = true then 1 else if (List.range (tb_np w h)).any (tb_ptBad w h st) = true then 2
  else if (tb_hasLoop w h st && (decide (1 < tb_ways w h st) || !tb_right w h num st)) = true then 3 else if tb_fine w h st = true then 0 else 4
theorem tb_broken_le (w h : Nat) (num : Nat → Int32) (st : Nat → Nat) : tb_broken w h num st ≤ 4 := by
  unfold tb_broken
  repeat' split
  all_goals omega
/-! what the rules want: (wants, wanting) of each edge -/
abbrev tb_Wt : Type := (Nat → Nat) × (Nat → Nat)
def tb_want (st : Nat → Nat) (W : tb_Wt) (e how b : Nat) : tb_Wt := if st e = 0 then (fun j => if j = e then W.1 e ||| how else W.1 j, fun j => if j = e then (if W.2 e = 0 ∨ b < W.2 e then b else W.2 e) else W.2 j) else W
def rf_W (w h : Nat) (W : tb_Wt) (X : xs_T) : Prop := ∀ e, e < tb_ne w h → X.2.2.1 30 e = nI (W.1 e) ∧ X.2.2.1 31 e = nI (W.2 e) ∧ W.1 e ≤ 3 ∧ W.2 e ≤ 7
theorem rf_wfr {w h : Nat} {W : tb_Wt} {S : List Nat} {F : List (Nat × Nat)} {X Y : xs_T} (hS : rf_W w h W X) (hf : xs_fr S F X Y) (hq : (!decide (30 ∈ S) && !decide (31 ∈ S)) = true := by decide) : rf_W w h W Y := by
  simp only [Bool.and_eq_true, Bool.not_eq_true'] at hq
  intro e he
  rw [xs_fa hf 30 hq.1, xs_fa hf 31 hq.2]
  exact hS e he
def tb_wantA (w h : Nat) (st : Nat → Nat) (W : tb_Wt) (c how b : Nat) : Nat → tb_Wt
  | 0 => W
  | k + 1 => tb_want st (tb_wantA w h st W c how b k) (tb_sid w h c k) how b
def tb_wantP (w h : Nat) (st : Nat → Nat) (W : tb_Wt) (p how b : Nat) : Nat → tb_Wt
  | 0 => W
  | k + 1 => if tb_one w h k = p ∨ tb_oth w h k = p then tb_want st (tb_wantP w h st W p how b k) k how b else tb_wantP w h st W p how b k
def tb_askC (w h : Nat) (num : Nat → Int32) (st : Nat → Nat) : Nat → tb_Wt
  | 0 => (fun _ => 0, fun _ => 0)
  | c + 1 =>
    let W := tb_askC w h num st c
    let W1 := if num c = nI (tb_ar w h st c 1) then tb_wantA w h st W c 2 1 4 else W
    if num c = nI (tb_ar w h st c 1 + tb_ar w h st c 0) then tb_wantA w h st W1 c 1 2 4 else W1
def tb_askP1 (w h : Nat) (st : Nat → Nat) (W : tb_Wt) (p : Nat) : tb_Wt := if tb_deg w h st p = 2 then tb_wantP w h st W p 2 3 (tb_ne w h) else W
def tb_askP2 (w h : Nat) (st : Nat → Nat) (W : tb_Wt) (p : Nat) : tb_Wt := if tb_deg w h st p = 1 ∧ tb_at w h st p 0 = 1 then tb_wantP w h st W p 1 4 (tb_ne w h) else W
def tb_askP3 (w h : Nat) (st : Nat → Nat) (W : tb_Wt) (p : Nat) : tb_Wt := if tb_deg w h st p = 0 ∧ tb_at w h st p 0 = 1 then tb_wantP w h st W p 2 5 (tb_ne w h) else W
def tb_askP (w h : Nat) (num : Nat → Int32) (st : Nat → Nat) : Nat → tb_Wt
  | 0 => tb_askC w h num st (tb_nc w h)
  | p + 1 => tb_askP3 w h st (tb_askP2 w h st (tb_askP1 w h st (tb_askP w h num st p) p) p) p
def tb_set (st : Nat → Nat) (e v : Nat) : Nat → Nat := fun j => if j = e then v else st j
def tb_closes (w h : Nat) (num : Nat → Int32) (st : Nat → Nat) (e : Nat) : Bool := tb_isLoop w h (tb_set st e 1) && tb_right w h num (tb_set st e 1)
def tb_askE6 (w h : Nat) (num : Nat → Int32) (st : Nat → Nat) (W : tb_Wt) (e : Nat) : tb_Wt := if st e = 0 ∧ tb_L w h (tb_isL st) (tb_one w h e) = tb_L w h (tb_isL st) (tb_oth w h e) ∧ tb_closes w h num st e = false then tb_want st W e 2 6 else W
def tb_chE (w h : Nat) (st : Nat → Nat) : (Nat → Nat) × (Nat → Bool) × Bool := tb_ch w h st (tb_ne w h)
def tb_askE7 (w h : Nat) (st : Nat → Nat) (W : tb_Wt) (e : Nat) : tb_Wt := if (tb_chE w h st).1 (tb_are w h e) = (tb_chE w h st).1 (tb_bes w h e) then tb_want st W e (if (tb_chE w h st).2.1 (tb_are w h e) = (tb_chE w h st).2.1 (tb_bes w h e) then 2 else 1) 7 else W
def tb_askE (w h : Nat) (num : Nat → Int32) (st : Nat → Nat) : Nat → tb_Wt
  | 0 => tb_askP w h num st (tb_np w h)
  | e + 1 => tb_askE7 w h st (tb_askE6 w h num st (tb_askE w h num st e) e) e
def tb_asks (w h : Nat) (num : Nat → Int32) (st : Nat → Nat) : tb_Wt := tb_askE w h num st (tb_ne w h)
theorem tb_ptBad_t {w h : Nat} {st : Nat → Nat} {p : Nat} (hp : 2 < tb_at w h st p 1 ∨ (tb_at w h st p 1 = 1 ∧ tb_at w h st p 0 = 0)) : tb_ptBad w h st p = true := by
  unfold tb_ptBad tb_deg
  rw [Bool.or_eq_true, Bool.and_eq_true, decide_eq_true_eq, beq_iff_eq, beq_iff_eq]
  exact hp
theorem tb_ptBad_f {w h : Nat} {st : Nat → Nat} {p : Nat} (hp : ¬ (2 < tb_at w h st p 1 ∨ (tb_at w h st p 1 = 1 ∧ tb_at w h st p 0 = 0))) : tb_ptBad w h st p = false := by
  rw [Bool.eq_false_iff]
  intro h2
  unfold tb_ptBad tb_deg at h2
  rw [Bool.or_eq_true, Bool.and_eq_true, decide_eq_true_eq, beq_iff_eq, beq_iff_eq] at h2
  exact hp h2
theorem rf_cfr {w h : Nat} {st : Nat → Nat} {k : Nat} {S : List Nat} {F : List (Nat × Nat)} {X Y : xs_T} (hS : rf_C w h st k X) (hf : xs_fr S F X Y) (hq : (!decide (35 ∈ S) && !decide (36 ∈ S)) = true := by decide) : rf_C w h st k Y := by
  simp only [Bool.and_eq_true, Bool.not_eq_true'] at hq
  intro e he
  rw [xs_fa hf 35 hq.1, xs_fa hf 36 hq.2]
  exact hS e he
end
section
set_option maxHeartbeats 4000000 in
theorem c_X6_brokenBy {l : Launch} {G : jq_G} {n : Nat} {ad : Nat → Nat} {X : xs_T} (hn : 39 ≤ n) {w h : Nat} {num : Nat → Int32} {st : Nat → Nat} (hT : rf_T w h X) (hS : rf_S w h st X) (hN : rf_N w h num X) : xs_Ct l G mX6_brokenBy 4 [.ref (ad 21)] n ad X (xs_pi (fun v X' => v = nI (tb_broken w h num st) ∧ xs_fr [34, 35, 36] [] X X')) := by
  have hz := tb_sizes hT.1
  have h106 : ∀ (o1 o2 : Option Value), (List.range (tb_nc w h)).any (tb_cellBad w h num st) = false → (List.range (tb_np w h)).any (tb_ptBad w h st) = false → jq_J l G mX6_brokenBy (jq_R 4 0 0) jq_E0 (xs_Ye G n ad (xs_pi (fun v X' => v = nI (tb_broken w h num st) ∧ xs_fr [34, 35, 36] [] X X'))) 106 [some (.ref (ad 21)), o1, o2] [] n ad (xs_mem G ad X) 0 0 := by
    intro o1 o2 hb1 hb2
    have hwl : tb_ways w h st ≤ 25 := Nat.le_trans (fb_ct_le _ _) (by omega)
    have key : ∀ v : Nat, v = (if (tb_hasLoop w h st && (decide (1 < tb_ways w h st) || !tb_right w h num st)) = true then 3 else if tb_fine w h st = true then 0 else 4) → v = tb_broken w h num st := by
      intro v hv
      unfold tb_broken
      rw [hb1, hb2]
      exact hv
    have h134 : ∀ (Y : xs_T), xs_fr [34, 35, 36] [] X Y → (tb_hasLoop w h st && (decide (1 < tb_ways w h st) || !tb_right w h num st)) = false → jq_J l G mX6_brokenBy (jq_R 4 0 0) jq_E0 (xs_Ye G n ad (xs_pi (fun v X' => v = nI (tb_broken w h num st) ∧ xs_fr [34, 35, 36] [] X X'))) 134 [some (.ref (ad 21)), o1, o2] [] n ad (xs_mem G ad Y) 0 0 := by
      intro Y hf hno
      have hT2 := rf_fr hT hf
      have hS2 := rf_sfr hS hf
      refine jq_aload_n dX6_brokenBy_134 rfl rfl ?_
      refine xq_rI dX6_brokenBy_135 kX6_131 (c_X6_chains hn hT2 hS2) (xs_lt (by decide) hn) ⟨rfl, rfl⟩ rfl rfl (Nat.le_of_ble_eq_true rfl) ⟨⟨by decide, by decide⟩, Nat.le_refl _, Nat.le_refl _⟩ (fun v135 X135 h135 => ?_)
      obtain ⟨rfl, hf3, -⟩ := h135
      refine jq_if_eq (tgt := 145) dX6_brokenBy_138 (by decide) (fun c138 => ?_) (fun c138 => ?_)
      · have hfi := tb_b0.mp c138
        refine jq_iconst (v := (nI 4)) dX6_brokenBy_145 (by decide) ?_
        exact xq_ireturn dX6_brokenBy_146 rfl rfl (⟨_, rfl, congrArg nI (key _ (by rw [hno, hfi]; rfl)), xs_fr_tr hf (xs_fr_mo hf3 (by decide))⟩)
      · have hfi := tb_b1.mp c138
        refine jq_iconst (v := (nI 0)) dX6_brokenBy_141 (by decide) ?_
        refine jq_goto (tgt := 146) dX6_brokenBy_142 (by decide) ?_
        exact xq_ireturn dX6_brokenBy_146 rfl rfl (⟨_, rfl, congrArg nI (key _ (by rw [hno, hfi]; rfl)), xs_fr_tr hf (xs_fr_mo hf3 (by decide))⟩)
    refine jq_aload_n dX6_brokenBy_106 rfl rfl ?_
    refine xq_rV dX6_brokenBy_107 kX6_121 (c_X6_labels hn hT hS) (xs_lt (by decide) hn) ⟨rfl, rfl⟩ rfl rfl (Nat.le_of_ble_eq_true rfl) ⟨⟨by decide, by decide⟩, Nat.le_refl _, Nat.le_refl _⟩ (fun X107 h107 => ?_)
    obtain ⟨hf, hL⟩ := h107
    have hT1 := rf_fr hT hf
    have hS1 := rf_sfr hS hf
    have hN1 := rf_nfr hN hf
    have hfm := xs_fr_mo (S' := [34, 35, 36]) (F' := []) hf (by decide)
    refine jq_aload_n dX6_brokenBy_110 rfl rfl ?_
    refine xq_vI dX6_brokenBy_111 kX6_124 (c_X6_hasLoop hn hT1 hS1 hL) (xs_lt (by decide) hn) ⟨rfl, rfl⟩ rfl rfl (Nat.le_of_ble_eq_true rfl) ⟨⟨by decide, by decide⟩, Nat.le_refl _, Nat.le_refl _⟩ ?_
    refine jq_if_eq (tgt := 134) dX6_brokenBy_114 (by decide) (fun c114 => ?_) (fun c114 => ?_)
    · have hlo := tb_b0.mp c114
      exact h134 _ hfm (by simp [*])
    · have hlo := tb_b1.mp c114
      refine jq_aload_n dX6_brokenBy_117 rfl rfl ?_
      refine xq_vI dX6_brokenBy_118 kX6_117 (c_X6_waysOf hn hT1 hS1 hL) (xs_lt (by decide) hn) ⟨rfl, rfl⟩ rfl rfl (Nat.le_of_ble_eq_true rfl) ⟨⟨by decide, by decide⟩, Nat.le_refl _, Nat.le_refl _⟩ ?_
      refine jq_iconst (v := (nI 1)) dX6_brokenBy_121 (by decide) ?_
      refine jq_gtN (tgt := 132) dX6_brokenBy_122 (by decide) ⟨by omega, by omega⟩ (fun c122 => ?_) (fun c122 => ?_)
      · refine jq_iconst (v := (nI 3)) dX6_brokenBy_132 (by decide) ?_
        exact xq_ireturn dX6_brokenBy_133 rfl rfl (⟨_, rfl, congrArg nI (key 3 (by rw [if_pos]; simp [*])), hfm⟩)
      · refine jq_aload_n dX6_brokenBy_125 rfl rfl ?_
        refine xq_vI dX6_brokenBy_126 kX6_128 (c_X6_areRight hn hT1 hS1 hN1) (xs_lt (by decide) hn) ⟨rfl, rfl⟩ rfl rfl (Nat.le_of_ble_eq_true rfl) ⟨⟨by decide, by decide⟩, Nat.le_refl _, Nat.le_refl _⟩ ?_
        refine jq_if_ne (tgt := 134) dX6_brokenBy_129 (by decide) (fun c129 => ?_) (fun c129 => ?_)
        · have hri := tb_b1.mp c129
          exact h134 _ hfm (by simp [*])
        · have hri := tb_b0.mp c129
          refine jq_iconst (v := (nI 3)) dX6_brokenBy_132 (by decide) ?_
          exact xq_ireturn dX6_brokenBy_133 rfl rfl (⟨_, rfl, congrArg nI (key 3 (by rw [if_pos]; simp [*])), hfm⟩)
  have loop2 : ∀ (k p : Nat) (o2 : Option Value), p + k = tb_np w h → (List.range (tb_nc w h)).any (tb_cellBad w h num st) = false → (∀ j, j < p → tb_ptBad w h st j = false) → jq_J l G mX6_brokenBy (jq_R 4 0 0) jq_E0 (xs_Ye G n ad (xs_pi (fun v X' => v = nI (tb_broken w h num st) ∧ xs_fr [34, 35, 36] [] X X'))) 64 [some (.ref (ad 21)), some (.int (nI (p))), o2] [] n ad (xs_mem G ad X) 0 0 := by
    intro k
    induction k with
    | zero =>
      intro p o2 hk hb1 hc
      refine jq_iload_n dX6_brokenBy_64 rfl rfl ?_
      refine jq_aload_n dX6_brokenBy_65 rfl rfl ?_
      refine xq_getI fX6_83 dX6_brokenBy_66 (xs_lt (by decide) hn) (by decide) hT.2.2.2.2.2.1 ?_
      refine jq_geN (tgt := 106) dX6_brokenBy_69 (by decide) ⟨by omega, by omega⟩ (fun c69 => ?_) (fun c69 => ?_)
      · exact h106 _ _ hb1 (tb_anyF (by rw [show tb_np w h = p by omega]; exact hc))
      · exact absurd c69 (by omega)
    | succ k ih =>
      intro p o2 hk hb1 hc
      have hd := tb_at_le hT.1 st p 1
      have hd0 := tb_at_le hT.1 st p 0
      refine jq_iload_n dX6_brokenBy_64 rfl rfl ?_
      refine jq_aload_n dX6_brokenBy_65 rfl rfl ?_
      refine xq_getI fX6_83 dX6_brokenBy_66 (xs_lt (by decide) hn) (by decide) hT.2.2.2.2.2.1 ?_
      refine jq_geN (tgt := 106) dX6_brokenBy_69 (by decide) ⟨by omega, by omega⟩ (fun c69 => ?_) (fun c69 => ?_)
      · exact absurd c69 (by omega)
      · refine jq_aload_n dX6_brokenBy_72 rfl rfl ?_
        refine jq_iload_n dX6_brokenBy_73 rfl rfl ?_
        refine jq_iconst (v := (nI 1)) dX6_brokenBy_74 (by decide) ?_
        refine xq_vI dX6_brokenBy_75 kX6_114 (c_X6_at hn hT hS (by omega) (by decide)) (xs_lt (by decide) hn) ⟨rfl, rfl⟩ rfl rfl (Nat.le_of_ble_eq_true rfl) ⟨⟨by decide, by decide⟩, Nat.le_refl _, Nat.le_refl _⟩ ?_
        refine jq_istore_n dX6_brokenBy_78 rfl (by decide) rfl rfl ?_
        refine jq_iload_n dX6_brokenBy_79 rfl rfl ?_
        refine jq_iconst (v := (nI 2)) dX6_brokenBy_80 (by decide) ?_
        refine jq_gtN (tgt := 98) dX6_brokenBy_81 (by decide) ⟨by omega, by omega⟩ (fun c81 => ?_) (fun c81 => ?_)
        · refine jq_iconst (v := (nI 2)) dX6_brokenBy_98 (by decide) ?_
          exact xq_ireturn dX6_brokenBy_99 rfl rfl (⟨_, rfl, congrArg nI (by unfold tb_broken; rw [hb1, tb_anyT (c := p) (by omega) (tb_ptBad_t (by omega))]; rfl), xs_fr_rf⟩)
        · refine jq_iload_n dX6_brokenBy_84 rfl rfl ?_
          refine jq_iconst (v := (nI 1)) dX6_brokenBy_85 (by decide) ?_
          refine jq_neN (tgt := 100) dX6_brokenBy_86 (by decide) ⟨by omega, by omega⟩ (fun c86 => ?_) (fun c86 => ?_)
          · refine jq_iincN dX6_brokenBy_100 (by decide) rfl rfl rfl ?_
            refine jq_goto (tgt := 64) dX6_brokenBy_103 (by decide) ?_
            refine ih (p + 1) _ (by omega) hb1 (fun j hj => ?_)
            rcases Nat.lt_or_ge j p with q | q
            · exact hc j q
            · rw [show j = p by omega]; exact tb_ptBad_f (by omega)
          · refine jq_aload_n dX6_brokenBy_89 rfl rfl ?_
            refine jq_iload_n dX6_brokenBy_90 rfl rfl ?_
            refine jq_iconst (v := (nI 0)) dX6_brokenBy_91 (by decide) ?_
            refine xq_vI dX6_brokenBy_92 kX6_114 (c_X6_at hn hT hS (by omega) (by decide)) (xs_lt (by decide) hn) ⟨rfl, rfl⟩ rfl rfl (Nat.le_of_ble_eq_true rfl) ⟨⟨by decide, by decide⟩, Nat.le_refl _, Nat.le_refl _⟩ ?_
            refine jq_neZ (tgt := 100) dX6_brokenBy_95 (by decide) (by omega) (fun c95 => ?_) (fun c95 => ?_)
            · refine jq_iincN dX6_brokenBy_100 (by decide) rfl rfl rfl ?_
              refine jq_goto (tgt := 64) dX6_brokenBy_103 (by decide) ?_
              refine ih (p + 1) _ (by omega) hb1 (fun j hj => ?_)
              rcases Nat.lt_or_ge j p with q | q
              · exact hc j q
              · rw [show j = p by omega]; exact tb_ptBad_f (by omega)
            · refine jq_iconst (v := (nI 2)) dX6_brokenBy_98 (by decide) ?_
              exact xq_ireturn dX6_brokenBy_99 rfl rfl (⟨_, rfl, congrArg nI (by unfold tb_broken; rw [hb1, tb_anyT (c := p) (by omega) (tb_ptBad_t (by omega))]; rfl), xs_fr_rf⟩)
  have loop1 : ∀ (k c : Nat) (o2 : Option Value), c + k = tb_nc w h → (∀ j, j < c → tb_cellBad w h num st j = false) → jq_J l G mX6_brokenBy (jq_R 4 0 0) jq_E0 (xs_Ye G n ad (xs_pi (fun v X' => v = nI (tb_broken w h num st) ∧ xs_fr [34, 35, 36] [] X X'))) 2 [some (.ref (ad 21)), some (.int (nI (c))), o2] [] n ad (xs_mem G ad X) 0 0 := by
    intro k
    induction k with
    | zero =>
      intro c o2 hk hc
      refine jq_iload_n dX6_brokenBy_2 rfl rfl ?_
      refine jq_aload_n dX6_brokenBy_3 rfl rfl ?_
      refine xq_getI fX6_71 dX6_brokenBy_4 (xs_lt (by decide) hn) (by decide) hT.2.2.2.1 ?_
      refine jq_geN (tgt := 62) dX6_brokenBy_7 (by decide) ⟨by omega, by omega⟩ (fun c7 => ?_) (fun c7 => ?_)
      · refine jq_iconst (v := (nI 0)) dX6_brokenBy_62 (by decide) ?_
        refine jq_istore_n dX6_brokenBy_63 rfl (by decide) rfl rfl ?_
        exact loop2 (tb_np w h) 0 _ (by omega) (tb_anyF (by rw [show tb_nc w h = c by omega]; exact hc)) (fun j hj => absurd hj (Nat.not_lt_zero j))
      · exact absurd c7 (by omega)
    | succ k ih =>
      intro c o2 hk hc
      have h3 := hN c (by omega)
      have hi : vp_in (nI c) 16 := vp_inN (by omega) (by decide)
      refine jq_iload_n dX6_brokenBy_2 rfl rfl ?_
      refine jq_aload_n dX6_brokenBy_3 rfl rfl ?_
      refine xq_getI fX6_71 dX6_brokenBy_4 (xs_lt (by decide) hn) (by decide) hT.2.2.2.1 ?_
      refine jq_geN (tgt := 62) dX6_brokenBy_7 (by decide) ⟨by omega, by omega⟩ (fun c7 => ?_) (fun c7 => ?_)
      · exact absurd c7 (by omega)
      · refine jq_aload_n dX6_brokenBy_10 rfl rfl ?_
        refine jq_iload_n dX6_brokenBy_11 rfl rfl ?_
        refine jq_iconst (v := (nI 1)) dX6_brokenBy_12 (by decide) ?_
        refine xq_vI dX6_brokenBy_13 kX6_111 (c_X6_around hn hT hS (by omega) (by decide)) (xs_lt (by decide) hn) ⟨rfl, rfl⟩ rfl rfl (Nat.le_of_ble_eq_true rfl) ⟨⟨by decide, by decide⟩, Nat.le_refl _, Nat.le_refl _⟩ ?_
        refine jq_istore_n dX6_brokenBy_16 rfl (by decide) rfl rfl ?_
        refine jq_aload_n dX6_brokenBy_17 rfl rfl ?_
        refine xq_getR 27 fX6_25 dX6_brokenBy_18 (xs_lt (by decide) hn) (by decide) ?_
        refine jq_iload_n dX6_brokenBy_21 rfl rfl ?_
        refine xq_iaload dX6_brokenBy_22 (xs_lt (by decide) hn) rfl hi (xs_rd h3 (by omega)) ?_
        refine jq_iconst (v := (-1)) dX6_brokenBy_23 (by decide) ?_
        refine jq_icmp_eq (tgt := 56) dX6_brokenBy_24 (by decide) (fun c24 => ?_) (fun c24 => ?_)
        · refine jq_iincN dX6_brokenBy_56 (by decide) rfl rfl rfl ?_
          refine jq_goto (tgt := 2) dX6_brokenBy_59 (by decide) ?_
          refine ih (c + 1) _ (by omega) (fun j hj => ?_)
          rcases Nat.lt_or_ge j c with q | q
          · exact hc j q
          · rw [show j = c by omega]; unfold tb_cellBad; first | (rw [c24]; rfl) | (rw [decide_eq_false c34, decide_eq_false (Int32.not_lt.mpr c51)]; simp)
        · refine jq_iload_n dX6_brokenBy_27 rfl rfl ?_
          refine jq_aload_n dX6_brokenBy_28 rfl rfl ?_
          refine xq_getR 27 fX6_25 dX6_brokenBy_29 (xs_lt (by decide) hn) (by decide) ?_
          refine jq_iload_n dX6_brokenBy_32 rfl rfl ?_
          refine xq_iaload dX6_brokenBy_33 (xs_lt (by decide) hn) rfl hi (xs_rd h3 (by omega)) ?_
          refine jq_icmp_gt (tgt := 54) dX6_brokenBy_34 (by decide) (fun c34 => ?_) (fun c34 => ?_)
          · refine jq_iconst (v := (nI 1)) dX6_brokenBy_54 (by decide) ?_
            exact xq_ireturn dX6_brokenBy_55 rfl rfl (⟨_, rfl, congrArg nI (by unfold tb_broken; rw [tb_anyT (c := c) (by omega) (by unfold tb_cellBad; rw [show (num c == -1) = false by simp [c24]]; first | (rw [decide_eq_true c34]; rfl) | (rw [decide_eq_true (Int32.not_le.mp c51)]; simp))]; rfl), xs_fr_rf⟩)
          · refine jq_iload_n dX6_brokenBy_37 rfl rfl ?_
            refine jq_aload_n dX6_brokenBy_38 rfl rfl ?_
            refine jq_iload_n dX6_brokenBy_39 rfl rfl ?_
            refine jq_iconst (v := (nI 0)) dX6_brokenBy_40 (by decide) ?_
            refine xq_vI dX6_brokenBy_41 kX6_111 (c_X6_around hn hT hS (by omega) (by decide)) (xs_lt (by decide) hn) ⟨rfl, rfl⟩ rfl rfl (Nat.le_of_ble_eq_true rfl) ⟨⟨by decide, by decide⟩, Nat.le_refl _, Nat.le_refl _⟩ ?_
            refine jq_iaddN dX6_brokenBy_44 ?_
            refine jq_aload_n dX6_brokenBy_45 rfl rfl ?_
            refine xq_getR 27 fX6_25 dX6_brokenBy_46 (xs_lt (by decide) hn) (by decide) ?_
            refine jq_iload_n dX6_brokenBy_49 rfl rfl ?_
            refine xq_iaload dX6_brokenBy_50 (xs_lt (by decide) hn) rfl hi (xs_rd h3 (by omega)) ?_
            refine jq_icmp_ge (tgt := 56) dX6_brokenBy_51 (by decide) (fun c51 => ?_) (fun c51 => ?_)
            · refine jq_iincN dX6_brokenBy_56 (by decide) rfl rfl rfl ?_
              refine jq_goto (tgt := 2) dX6_brokenBy_59 (by decide) ?_
              refine ih (c + 1) _ (by omega) (fun j hj => ?_)
              rcases Nat.lt_or_ge j c with q | q
              · exact hc j q
              · rw [show j = c by omega]; unfold tb_cellBad; first | (rw [c24]; rfl) | (rw [decide_eq_false c34, decide_eq_false (Int32.not_lt.mpr c51)]; simp)
            · refine jq_iconst (v := (nI 1)) dX6_brokenBy_54 (by decide) ?_
              exact xq_ireturn dX6_brokenBy_55 rfl rfl (⟨_, rfl, congrArg nI (by unfold tb_broken; rw [tb_anyT (c := c) (by omega) (by unfold tb_cellBad; rw [show (num c == -1) = false by simp [c24]]; first | (rw [decide_eq_true c34]; rfl) | (rw [decide_eq_true (Int32.not_le.mp c51)]; simp))]; rfl), xs_fr_rf⟩)
  refine xs_Ct_of (L := [some (.ref (ad 21)), none, none]) rfl (Nat.le_of_ble_eq_true rfl) rfl ?_
  refine jq_iconst (v := (nI 0)) dX6_brokenBy_0 (by decide) ?_
  refine jq_istore_n dX6_brokenBy_1 rfl (by decide) rfl rfl ?_
  exact loop1 (tb_nc w h) 0 _ (by omega) (fun j hj => absurd hj (Nat.not_lt_zero j))
set_option maxHeartbeats 4000000 in
theorem c_X6_want {l : Launch} {G : jq_G} {n : Nat} {ad : Nat → Nat} {X : xs_T} (hn : 39 ≤ n) {w h : Nat} {st : Nat → Nat} {W : tb_Wt} (hT : rf_T w h X) (hS : rf_S w h st X) (hW : rf_W w h W X) {e how b : Nat} (he : e < tb_ne w h) (hh : how ≤ 3) (hb : b ≤ 7) : xs_Ct l G mX6_want 1 [.ref (ad 21), .int (nI (e)), .int (nI (how)), .int (nI (b))] n ad X (xs_pv (fun X' => xs_fr [30, 31] [] X X' ∧ rf_W w h (tb_want st W e how b) X')) := by
  have hz := tb_sizes hT.1
  have hi : vp_in (nI e) 40 := vp_inN (by omega) (by decide)
  have h3 := hS e he
  obtain ⟨w1, w2, w3, w4⟩ := hW e he
  have hor : W.1 e ||| how ≤ 3 := by
    have := Nat.or_lt_two_pow (n := 2) (show W.1 e < 2 ^ 2 by omega) (show how < 2 ^ 2 by omega)
    omega
  have h53 : st e = 0 → ∀ v : Nat, v = (if W.2 e = 0 ∨ b < W.2 e then b else W.2 e) → jq_J l G mX6_want (jq_R 1 0 0) jq_E0 (xs_Ye G n ad (xs_pv (fun X' => xs_fr [30, 31] [] X X' ∧ rf_W w h (tb_want st W e how b) X'))) 53 [some (.ref (ad 21)), some (.int (nI (e))), some (.int (nI (how))), some (.int (nI (b)))] [.int (nI (v)), .int (nI (e)), .ref (ad 31)] n ad (xs_mem G ad (xs_ai X 30 (upd (X.2.2.1 30) (nI e).toNatClampNeg (nI (W.1 e ||| how))))) 0 0 := by
    intro hs v hv
    have hv7 : v ≤ 7 := by rw [hv]; split <;> omega
    refine xq_iastore dX6_want_53 (xs_lt (by decide) hn) rfl hi ?_
    have hfin : rf_W w h (tb_want st W e how b) (xs_ai (xs_ai X 30 (upd (X.2.2.1 30) (nI e).toNatClampNeg (nI (W.1 e ||| how)))) 31 (upd ((xs_ai X 30 (upd (X.2.2.1 30) (nI e).toNatClampNeg (nI (W.1 e ||| how)))).2.2.1 31) (nI e).toNatClampNeg (nI v))) := by
      intro j hj
      unfold tb_want
      rw [if_pos hs, xs_ai_ne (by decide), xs_ai_at, xs_ai_at, xs_ai_ne (by decide)]
      by_cases hje : j = e
      · subst hje; rw [xs_upd_at (by omega), xs_upd_at (by omega)]; simp only [if_pos]; exact ⟨trivial, by rw [hv], hor, by rw [← hv]; exact hv7⟩
      · rw [xs_upd_ne (by omega) hje, xs_upd_ne (by omega) hje]; simp only [if_neg hje]; exact hW j hj
    exact xq_return rfl dX6_want_54 rfl (⟨rfl, xs_fr_ai (xs_fr_ai xs_fr_rf (by decide)) (by decide), hfin⟩)
  refine xs_Ct_of (L := [some (.ref (ad 21)), some (.int (nI (e))), some (.int (nI (how))), some (.int (nI (b)))]) rfl (Nat.le_of_ble_eq_true rfl) rfl ?_
  refine jq_aload_n dX6_want_0 rfl rfl ?_
  refine xq_getR 29 fX6_31 dX6_want_1 (xs_lt (by decide) hn) (by decide) ?_
  refine jq_iload_n dX6_want_4 rfl rfl ?_
  refine xq_iaload dX6_want_5 (xs_lt (by decide) hn) rfl hi (xs_rd h3.1 (by omega)) ?_
  refine jq_neZ (tgt := 54) dX6_want_6 (by decide) (by omega) (fun c6 => ?_) (fun c6 => ?_)
  · exact xq_return rfl dX6_want_54 rfl (⟨rfl, xs_fr_rf, by unfold tb_want; rw [if_neg c6]; exact hW⟩)
  · refine jq_aload_n dX6_want_9 rfl rfl ?_
    refine xq_getR 30 fX6_34 dX6_want_10 (xs_lt (by decide) hn) (by decide) ?_
    refine jq_iload_n dX6_want_13 rfl rfl ?_
    refine jq_dup2 dX6_want_14 rfl rfl ?_
    refine xq_iaload dX6_want_15 (xs_lt (by decide) hn) rfl hi (xs_rd w1 (by omega)) ?_
    refine jq_iload_n dX6_want_16 rfl rfl ?_
    refine jq_ior dX6_want_17 ?_
    rw [fa_or]
    refine xq_iastore dX6_want_18 (xs_lt (by decide) hn) rfl hi ?_
    refine jq_aload_n dX6_want_19 rfl rfl ?_
    refine xq_getR 31 fX6_37 dX6_want_20 (xs_lt (by decide) hn) (by decide) ?_
    refine jq_iload_n dX6_want_23 rfl rfl ?_
    refine jq_aload_n dX6_want_24 rfl rfl ?_
    refine xq_getR 31 fX6_37 dX6_want_25 (xs_lt (by decide) hn) (by decide) ?_
    refine jq_iload_n dX6_want_28 rfl rfl ?_
    refine xq_iaload dX6_want_29 (xs_lt (by decide) hn) rfl hi (xs_rd (show (xs_ai X 30 _).2.2.1 31 e = _ from w2) (by omega)) ?_
    refine jq_eqZ (tgt := 43) dX6_want_30 (by decide) (by omega) (fun c30 => ?_) (fun c30 => ?_)
    · refine jq_iload_n dX6_want_43 rfl rfl ?_
      refine jq_goto (tgt := 53) dX6_want_44 (by decide) ?_
      exact h53 c6 _ (by first | exact (if_pos (Or.inl c30)).symm | exact (if_pos (Or.inr c40)).symm | exact (if_neg (by omega)).symm)
    · refine jq_iload_n dX6_want_33 rfl rfl ?_
      refine jq_aload_n dX6_want_34 rfl rfl ?_
      refine xq_getR 31 fX6_37 dX6_want_35 (xs_lt (by decide) hn) (by decide) ?_
      refine jq_iload_n dX6_want_38 rfl rfl ?_
      refine xq_iaload dX6_want_39 (xs_lt (by decide) hn) rfl hi (xs_rd (show (xs_ai X 30 _).2.2.1 31 e = _ from w2) (by omega)) ?_
      refine jq_geN (tgt := 47) dX6_want_40 (by decide) ⟨by omega, by omega⟩ (fun c40 => ?_) (fun c40 => ?_)
      · refine jq_aload_n dX6_want_47 rfl rfl ?_
        refine xq_getR 31 fX6_37 dX6_want_48 (xs_lt (by decide) hn) (by decide) ?_
        refine jq_iload_n dX6_want_51 rfl rfl ?_
        refine xq_iaload dX6_want_52 (xs_lt (by decide) hn) rfl hi (xs_rd (show (xs_ai X 30 _).2.2.1 31 e = _ from w2) (by omega)) ?_
        exact h53 c6 _ (by first | exact (if_pos (Or.inl c30)).symm | exact (if_pos (Or.inr c40)).symm | exact (if_neg (by omega)).symm)
      · refine jq_iload_n dX6_want_43 rfl rfl ?_
        refine jq_goto (tgt := 53) dX6_want_44 (by decide) ?_
        exact h53 c6 _ (by first | exact (if_pos (Or.inl c30)).symm | exact (if_pos (Or.inr c40)).symm | exact (if_neg (by omega)).symm)
end
section
set_option maxHeartbeats 4000000 in
theorem c_X6_wantAround {l : Launch} {G : jq_G} {n : Nat} {ad : Nat → Nat} {X : xs_T} (hn : 39 ≤ n) {w h : Nat} {st : Nat → Nat} {W : tb_Wt} (hT : rf_T w h X) (hS : rf_S w h st X) (hW : rf_W w h W X) {c how b : Nat} (hc : c < tb_nc w h) (hh : how ≤ 3) (hb : b ≤ 7) : xs_Ct l G mX6_wantAround 2 [.ref (ad 21), .int (nI (c)), .int (nI (how)), .int (nI (b))] n ad X (xs_pv (fun X' => xs_fr [30, 31] [] X X' ∧ rf_W w h (tb_wantA w h st W c how b 4) X')) := by
  have hz := tb_sizes hT.1
  have loop : ∀ (k s : Nat) (Y : xs_T), s + k = 4 → xs_fr [30, 31] [] X Y → rf_W w h (tb_wantA w h st W c how b s) Y → jq_J l G mX6_wantAround (jq_R 2 0 0) jq_E0 (xs_Ye G n ad (xs_pv (fun X' => xs_fr [30, 31] [] X X' ∧ rf_W w h (tb_wantA w h st W c how b 4) X'))) 3 [some (.ref (ad 21)), some (.int (nI (c))), some (.int (nI (how))), some (.int (nI (b))), some (.int (nI (s)))] [] n ad (xs_mem G ad Y) 0 0 := by
    intro k
    induction k with
    | zero =>
      intro s Y hk hf hY
      refine jq_iload dX6_wantAround_3 rfl ?_
      refine jq_iconst (v := (nI 4)) dX6_wantAround_5 (by decide) ?_
      refine jq_geN (tgt := 32) dX6_wantAround_6 (by decide) ⟨by omega, by omega⟩ (fun c6 => ?_) (fun c6 => ?_)
      · exact xq_return rfl dX6_wantAround_32 rfl (⟨rfl, hf, by rw [show 4 = s by omega]; exact hY⟩)
      · exact absurd c6 (by omega)
    | succ k ih =>
      intro s Y hk hf hY
      have hT2 := rf_fr hT hf
      have hS2 := rf_sfr hS hf
      have h1 := hT2.2.2.2.2.2.2.2.2.2.2 c hc s (by omega)
      have hsd := tb_sides hT.1 c hc s (by omega)
      have hi : vp_in (nI (4 * c + s)) 64 := vp_inN (by omega) (by decide)
      refine jq_iload dX6_wantAround_3 rfl ?_
      refine jq_iconst (v := (nI 4)) dX6_wantAround_5 (by decide) ?_
      refine jq_geN (tgt := 32) dX6_wantAround_6 (by decide) ⟨by omega, by omega⟩ (fun c6 => ?_) (fun c6 => ?_)
      · exact absurd c6 (by omega)
      · refine jq_aload_n dX6_wantAround_9 rfl rfl ?_
        refine jq_aload_n dX6_wantAround_10 rfl rfl ?_
        refine xq_getR 26 fX6_22 dX6_wantAround_11 (xs_lt (by decide) hn) (by decide) ?_
        refine jq_iconst (v := (nI 4)) dX6_wantAround_14 (by decide) ?_
        refine jq_iload_n dX6_wantAround_15 rfl rfl ?_
        refine jq_imulN dX6_wantAround_16 ?_
        refine jq_iload dX6_wantAround_17 rfl ?_
        refine jq_iaddN dX6_wantAround_19 ?_
        refine xq_iaload dX6_wantAround_20 (xs_lt (by decide) hn) rfl hi (xs_rd h1 (by omega)) ?_
        refine jq_iload_n dX6_wantAround_21 rfl rfl ?_
        refine jq_iload_n dX6_wantAround_22 rfl rfl ?_
        refine xq_rV dX6_wantAround_23 kX6_134 (c_X6_want hn hT2 hS2 hY hsd hh hb) (xs_lt (by decide) hn) ⟨rfl, rfl⟩ rfl rfl (Nat.le_of_ble_eq_true rfl) ⟨⟨by decide, by decide⟩, Nat.le_refl _, Nat.le_refl _⟩ (fun X23 h23 => ?_)
        refine jq_iincN dX6_wantAround_26 (by decide) rfl rfl rfl ?_
        refine jq_goto (tgt := 3) dX6_wantAround_29 (by decide) ?_
        exact ih (s + 1) _ (by omega) (xs_fr_tr hf h23.1) h23.2
  refine xs_Ct_of (L := [some (.ref (ad 21)), some (.int (nI (c))), some (.int (nI (how))), some (.int (nI (b))), none]) rfl (Nat.le_of_ble_eq_true rfl) rfl ?_
  refine jq_iconst (v := (nI 0)) dX6_wantAround_0 (by decide) ?_
  refine jq_istore dX6_wantAround_1 (by decide) rfl rfl ?_
  exact loop 4 0 X (by omega) xs_fr_rf hW
set_option maxHeartbeats 4000000 in
theorem c_X6_wantAt {l : Launch} {G : jq_G} {n : Nat} {ad : Nat → Nat} {X : xs_T} (hn : 39 ≤ n) {w h : Nat} {st : Nat → Nat} {W : tb_Wt} (hT : rf_T w h X) (hS : rf_S w h st X) (hW : rf_W w h W X) {p how b : Nat} (hp : p < 2 ^ 31) (hh : how ≤ 3) (hb : b ≤ 7) : xs_Ct l G mX6_wantAt 2 [.ref (ad 21), .int (nI (p)), .int (nI (how)), .int (nI (b))] n ad X (xs_pv (fun X' => xs_fr [30, 31] [] X X' ∧ rf_W w h (tb_wantP w h st W p how b (tb_ne w h)) X')) := by
  have hz := tb_sizes hT.1
  have loop : ∀ (k e : Nat) (Y : xs_T), e + k = tb_ne w h → xs_fr [30, 31] [] X Y → rf_W w h (tb_wantP w h st W p how b e) Y → jq_J l G mX6_wantAt (jq_R 2 0 0) jq_E0 (xs_Ye G n ad (xs_pv (fun X' => xs_fr [30, 31] [] X X' ∧ rf_W w h (tb_wantP w h st W p how b (tb_ne w h)) X'))) 3 [some (.ref (ad 21)), some (.int (nI (p))), some (.int (nI (how))), some (.int (nI (b))), some (.int (nI (e)))] [] n ad (xs_mem G ad Y) 0 0 := by
    intro k
    induction k with
    | zero =>
      intro e Y hk hf hY
      have hT2 := rf_fr hT hf
      refine jq_iload dX6_wantAt_3 rfl ?_
      refine jq_aload_n dX6_wantAt_5 rfl rfl ?_
      refine xq_getI fX6_74 dX6_wantAt_6 (xs_lt (by decide) hn) (by decide) hT2.2.2.2.2.1 ?_
      refine jq_geN (tgt := 48) dX6_wantAt_9 (by decide) ⟨by omega, by omega⟩ (fun c9 => ?_) (fun c9 => ?_)
      · exact xq_return rfl dX6_wantAt_48 rfl (⟨rfl, hf, by rw [show tb_ne w h = e by omega]; exact hY⟩)
      · exact absurd c9 (by omega)
    | succ k ih =>
      intro e Y hk hf hY
      have he : e < tb_ne w h := by omega
      have hT2 := rf_fr hT hf
      have hS2 := rf_sfr hS hf
      have h1 := hT2.2.2.2.2.2.2.1 e he
      have h2 := hT2.2.2.2.2.2.2.2.1 e he
      have hb2 := tb_ends hT.1 e he
      have hi : vp_in (nI e) 40 := vp_inN (by omega) (by decide)
      have h42 : ∀ Z : xs_T, xs_fr [30, 31] [] X Z → rf_W w h (tb_wantP w h st W p how b (e + 1)) Z → jq_J l G mX6_wantAt (jq_R 2 0 0) jq_E0 (xs_Ye G n ad (xs_pv (fun X' => xs_fr [30, 31] [] X X' ∧ rf_W w h (tb_wantP w h st W p how b (tb_ne w h)) X'))) 42 [some (.ref (ad 21)), some (.int (nI (p))), some (.int (nI (how))), some (.int (nI (b))), some (.int (nI (e)))] [] n ad (xs_mem G ad Z) 0 0 := by
        intro Z hfZ hZ
        refine jq_iincN dX6_wantAt_42 (by decide) rfl rfl rfl ?_
        refine jq_goto (tgt := 3) dX6_wantAt_45 (by decide) ?_
        exact ih (e + 1) Z (by omega) hfZ hZ
      have h34 : (tb_one w h e = p ∨ tb_oth w h e = p) → jq_J l G mX6_wantAt (jq_R 2 0 0) jq_E0 (xs_Ye G n ad (xs_pv (fun X' => xs_fr [30, 31] [] X X' ∧ rf_W w h (tb_wantP w h st W p how b (tb_ne w h)) X'))) 34 [some (.ref (ad 21)), some (.int (nI (p))), some (.int (nI (how))), some (.int (nI (b))), some (.int (nI (e)))] [] n ad (xs_mem G ad Y) 0 0 := by
        intro hor
        refine jq_aload_n dX6_wantAt_34 rfl rfl ?_
        refine jq_iload dX6_wantAt_35 rfl ?_
        refine jq_iload_n dX6_wantAt_37 rfl rfl ?_
        refine jq_iload_n dX6_wantAt_38 rfl rfl ?_
        refine xq_rV dX6_wantAt_39 kX6_134 (c_X6_want hn hT2 hS2 hY he hh hb) (xs_lt (by decide) hn) ⟨rfl, rfl⟩ rfl rfl (Nat.le_of_ble_eq_true rfl) ⟨⟨by decide, by decide⟩, Nat.le_refl _, Nat.le_refl _⟩ (fun X39 h39 => ?_)
        exact h42 _ (xs_fr_tr hf h39.1) (by rw [tb_wantP, if_pos hor]; exact h39.2)
      refine jq_iload dX6_wantAt_3 rfl ?_
      refine jq_aload_n dX6_wantAt_5 rfl rfl ?_
      refine xq_getI fX6_74 dX6_wantAt_6 (xs_lt (by decide) hn) (by decide) hT2.2.2.2.2.1 ?_
      refine jq_geN (tgt := 48) dX6_wantAt_9 (by decide) ⟨by omega, by omega⟩ (fun c9 => ?_) (fun c9 => ?_)
      · exact absurd c9 (by omega)
      · refine jq_aload_n dX6_wantAt_12 rfl rfl ?_
        refine xq_getR 22 fX6_7 dX6_wantAt_13 (xs_lt (by decide) hn) (by decide) ?_
        refine jq_iload dX6_wantAt_16 rfl ?_
        refine xq_iaload dX6_wantAt_18 (xs_lt (by decide) hn) rfl hi (xs_rd h1 (by omega)) ?_
        refine jq_iload_n dX6_wantAt_19 rfl rfl ?_
        refine jq_eqN (tgt := 34) dX6_wantAt_20 (by decide) ⟨by omega, by omega⟩ (fun c20 => ?_) (fun c20 => ?_)
        · first | exact h34 (Or.inl c20) | exact h34 (Or.inr c31)
        · refine jq_aload_n dX6_wantAt_23 rfl rfl ?_
          refine xq_getR 23 fX6_13 dX6_wantAt_24 (xs_lt (by decide) hn) (by decide) ?_
          refine jq_iload dX6_wantAt_27 rfl ?_
          refine xq_iaload dX6_wantAt_29 (xs_lt (by decide) hn) rfl hi (xs_rd h2 (by omega)) ?_
          refine jq_iload_n dX6_wantAt_30 rfl rfl ?_
          refine jq_neN (tgt := 42) dX6_wantAt_31 (by decide) ⟨by omega, by omega⟩ (fun c31 => ?_) (fun c31 => ?_)
          · exact h42 Y hf (by rw [tb_wantP, if_neg (by rintro (q | q); exact c20 q; exact c31 q)]; exact hY)
          · first | exact h34 (Or.inl c20) | exact h34 (Or.inr c31)
  refine xs_Ct_of (L := [some (.ref (ad 21)), some (.int (nI (p))), some (.int (nI (how))), some (.int (nI (b))), none]) rfl (Nat.le_of_ble_eq_true rfl) rfl ?_
  refine jq_iconst (v := (nI 0)) dX6_wantAt_0 (by decide) ?_
  refine jq_istore dX6_wantAt_1 (by decide) rfl rfl ?_
  exact loop (tb_ne w h) 0 X (by omega) xs_fr_rf hW
set_option maxHeartbeats 4000000 in
theorem c_X6_closes {l : Launch} {G : jq_G} {n : Nat} {ad : Nat → Nat} {X : xs_T} (hn : 39 ≤ n) {w h : Nat} {num : Nat → Int32} {st : Nat → Nat} (hT : rf_T w h X) (hS : rf_S w h st X) (hN : rf_N w h num X) {e : Nat} (he : e < tb_ne w h) (h0 : st e = 0) : xs_Ct l G mX6_closes 4 [.ref (ad 21), .int (nI (e))] n ad X (xs_pi (fun v X' => v = tb_b (tb_closes w h num st e) ∧ xs_fr [29, 34] [] X X' ∧ rf_S w h st X' ∧ rf_L w h (tb_isL st) X')) := by
  have hz := tb_sizes hT.1
  have hi : vp_in (nI e) 40 := vp_inN (by omega) (by decide)
  have h30 : ∀ (Y : xs_T) (o2 : Option Value) (v : Int32), v = tb_b (tb_closes w h num st e) → xs_fr [29, 34] [] X Y → rf_S w h (tb_set st e 1) Y → jq_J l G mX6_closes (jq_R 4 0 0) jq_E0 (xs_Ye G n ad (xs_pi (fun v X' => v = tb_b (tb_closes w h num st e) ∧ xs_fr [29, 34] [] X X' ∧ rf_S w h st X' ∧ rf_L w h (tb_isL st) X'))) 30 [some (.ref (ad 21)), some (.int (nI (e))), o2] [.int (v)] n ad (xs_mem G ad Y) 0 0 := by
    intro Y o2 v hv hf hY
    have hfZ : xs_fr [29, 34] [] X (xs_ai Y 29 (upd (Y.2.2.1 29) (nI e).toNatClampNeg (nI 0))) := xs_fr_ai hf (by decide)
    have hSZ : rf_S w h st (xs_ai Y 29 (upd (Y.2.2.1 29) (nI e).toNatClampNeg (nI 0))) := by
      intro j hj
      rw [xs_ai_at]
      by_cases hje : j = e
      · subst hje; rw [xs_upd_at (by omega), h0]; exact ⟨rfl, by omega⟩
      · rw [xs_upd_ne (by omega) hje]
        have := hY j hj
        unfold tb_set at this
        rw [if_neg hje] at this
        exact this
    refine jq_istore_n dX6_closes_30 rfl (by decide) rfl rfl ?_
    refine jq_aload_n dX6_closes_31 rfl rfl ?_
    refine xq_getR 29 fX6_31 dX6_closes_32 (xs_lt (by decide) hn) (by decide) ?_
    refine jq_iload_n dX6_closes_35 rfl rfl ?_
    refine jq_iconst (v := (nI 0)) dX6_closes_36 (by decide) ?_
    refine xq_iastore dX6_closes_37 (xs_lt (by decide) hn) rfl hi ?_
    refine jq_aload_n dX6_closes_38 rfl rfl ?_
    refine xq_rV dX6_closes_39 kX6_121 (c_X6_labels hn (rf_fr hT hfZ) hSZ) (xs_lt (by decide) hn) ⟨rfl, rfl⟩ rfl rfl (Nat.le_of_ble_eq_true rfl) ⟨⟨by decide, by decide⟩, Nat.le_refl _, Nat.le_refl _⟩ (fun X39 h39 => ?_)
    refine jq_iload_n dX6_closes_42 rfl rfl ?_
    exact xq_ireturn dX6_closes_43 rfl (by rw [hv]; exact tb_narrow _) (⟨_, rfl, hv, xs_fr_tr hfZ (xs_fr_mo h39.1 (by decide)), rf_sfr hSZ h39.1, h39.2⟩)
  have hf1 : xs_fr [29, 34] [] X (xs_ai X 29 (upd (X.2.2.1 29) (nI e).toNatClampNeg (nI 1))) := xs_fr_ai xs_fr_rf (by decide)
  have hS1 : rf_S w h (tb_set st e 1) (xs_ai X 29 (upd (X.2.2.1 29) (nI e).toNatClampNeg (nI 1))) := by
    intro j hj
    rw [xs_ai_at]
    unfold tb_set
    by_cases hje : j = e
    · subst hje; rw [xs_upd_at (by omega), if_pos rfl]; exact ⟨rfl, by omega⟩
    · rw [xs_upd_ne (by omega) hje, if_neg hje]; exact hS j hj
  have hT1 := rf_fr hT hf1
  have hN1 := rf_nfr hN hf1
  refine xs_Ct_of (L := [some (.ref (ad 21)), some (.int (nI (e))), none]) rfl (Nat.le_of_ble_eq_true rfl) rfl ?_
  refine jq_aload_n dX6_closes_0 rfl rfl ?_
  refine xq_getR 29 fX6_31 dX6_closes_1 (xs_lt (by decide) hn) (by decide) ?_
  refine jq_iload_n dX6_closes_4 rfl rfl ?_
  refine jq_iconst (v := (nI 1)) dX6_closes_5 (by decide) ?_
  refine xq_iastore dX6_closes_6 (xs_lt (by decide) hn) rfl hi ?_
  refine jq_aload_n dX6_closes_7 rfl rfl ?_
  refine xq_rV dX6_closes_8 kX6_121 (c_X6_labels hn hT1 hS1) (xs_lt (by decide) hn) ⟨rfl, rfl⟩ rfl rfl (Nat.le_of_ble_eq_true rfl) ⟨⟨by decide, by decide⟩, Nat.le_refl _, Nat.le_refl _⟩ (fun X8 h8 => ?_)
  have hf2 := xs_fr_tr hf1 (xs_fr_mo (S' := [29, 34]) (F' := []) h8.1 (by decide))
  have hS2 := rf_sfr hS1 h8.1
  have hN2 := rf_nfr hN1 h8.1
  have hT2 := rf_fr hT1 h8.1
  refine jq_aload_n dX6_closes_11 rfl rfl ?_
  refine xq_vI dX6_closes_12 kX6_138 (c_X6_isLoop hn hT2 hS2 h8.2) (xs_lt (by decide) hn) ⟨rfl, rfl⟩ rfl rfl (Nat.le_of_ble_eq_true rfl) ⟨⟨by decide, by decide⟩, Nat.le_refl _, Nat.le_refl _⟩ ?_
  refine jq_if_eq (tgt := 29) dX6_closes_15 (by decide) (fun c15 => ?_) (fun c15 => ?_)
  · have hl0 := tb_b0.mp c15
    refine jq_iconst (v := 0) dX6_closes_29 (by decide) ?_
    exact h30 _ _ _ (by first | exact tb_b_t (by unfold tb_closes; simp [*]) | exact tb_b_f (by unfold tb_closes; simp [*])) hf2 hS2
  · have hl0 := tb_b1.mp c15
    refine jq_aload_n dX6_closes_18 rfl rfl ?_
    refine xq_vI dX6_closes_19 kX6_128 (c_X6_areRight hn hT2 hS2 hN2) (xs_lt (by decide) hn) ⟨rfl, rfl⟩ rfl rfl (Nat.le_of_ble_eq_true rfl) ⟨⟨by decide, by decide⟩, Nat.le_refl _, Nat.le_refl _⟩ ?_
    refine jq_if_eq (tgt := 29) dX6_closes_22 (by decide) (fun c22 => ?_) (fun c22 => ?_)
    · have hr0 := tb_b0.mp c22
      refine jq_iconst (v := 0) dX6_closes_29 (by decide) ?_
      exact h30 _ _ _ (by first | exact tb_b_t (by unfold tb_closes; simp [*]) | exact tb_b_f (by unfold tb_closes; simp [*])) hf2 hS2
    · have hr0 := tb_b1.mp c22
      refine jq_iconst (v := 1) dX6_closes_25 (by decide) ?_
      refine jq_goto (tgt := 30) dX6_closes_26 (by decide) ?_
      exact h30 _ _ _ (by first | exact tb_b_t (by unfold tb_closes; simp [*]) | exact tb_b_f (by unfold tb_closes; simp [*])) hf2 hS2
end
section
set_option maxHeartbeats 8000000 in
theorem c_X6_asks {l : Launch} {G : jq_G} {n : Nat} {ad : Nat → Nat} {X : xs_T} (hn : 39 ≤ n) {w h : Nat} {num : Nat → Int32} {st : Nat → Nat} (hT : rf_T w h X) (hS : rf_S w h st X) (hN : rf_N w h num X) : xs_Ct l G mX6_asks 5 [.ref (ad 21)] n ad X (xs_pv (fun X' => xs_fr [29, 30, 31, 34, 35, 36] [] X X' ∧ rf_S w h st X' ∧ rf_W w h (tb_asks w h num st) X')) := by
  have hz := tb_sizes hT.1
  -- the edges
  have loop4 : ∀ (k e : Nat) (o2 o3 : Option Value) (Y : xs_T), e + k = tb_ne w h → xs_fr [29, 30, 31, 34, 35, 36] [] X Y → rf_S w h st Y → rf_L w h (tb_isL st) Y → rf_C w h st (tb_ne w h) Y → rf_W w h (tb_askE w h num st e) Y → jq_J l G mX6_asks (jq_R 5 0 0) jq_E0 (xs_Ye G n ad (xs_pv (fun X' => xs_fr [29, 30, 31, 34, 35, 36] [] X X' ∧ rf_S w h st X' ∧ rf_W w h (tb_asks w h num st) X'))) 180 [some (.ref (ad 21)), some (.int (nI (e))), o2, o3] [] n ad (xs_mem G ad Y) 0 0 := by
    intro k
    induction k with
    | zero =>
      intro e o2 o3 Y hk hf hY hLY hCY hWY
      have hT2 := rf_fr hT hf
      refine jq_iload_n dX6_asks_180 rfl rfl ?_
      refine jq_aload_n dX6_asks_181 rfl rfl ?_
      refine xq_getI fX6_74 dX6_asks_182 (xs_lt (by decide) hn) (by decide) hT2.2.2.2.2.1 ?_
      refine jq_geN (tgt := 306) dX6_asks_185 (by decide) ⟨by omega, by omega⟩ (fun c185 => ?_) (fun c185 => ?_)
      · exact xq_return rfl dX6_asks_306 rfl (⟨rfl, hf, hY, by unfold tb_asks; rw [show tb_ne w h = e by omega]; exact hWY⟩)
      · exact absurd c185 (by omega)
    | succ k ih =>
      intro e o2 o3 Y hk hf hY hLY hCY hWY
      have he : e < tb_ne w h := by omega
      have hi : vp_in (nI e) 40 := vp_inN (by omega) (by decide)
      have hb := tb_ends hT.1 e he
      have hle := tb_ch_le hT.1 st (tb_ne w h) (Nat.le_refl _)
      have hla := hle _ hb.2.2.2.1
      have hlb := hle _ hb.2.2.2.2
      have hia : vp_in (nI (tb_are w h e)) 17 := vp_inN (by omega) (by decide)
      have hib : vp_in (nI (tb_bes w h e)) 17 := vp_inN (by omega) (by decide)
      have hi1 : vp_in (nI (tb_one w h e)) 25 := vp_inN (by omega) (by decide)
      have hi2 : vp_in (nI (tb_oth w h e)) 25 := vp_inN (by omega) (by decide)
      have hl1 := tb_L_lt (S := tb_isL st) hb.1
      have hl2 := tb_L_lt (S := tb_isL st) hb.2.1
      -- behind rule 7
      have h300 : ∀ Z : xs_T, xs_fr [29, 30, 31, 34, 35, 36] [] X Z → rf_S w h st Z → rf_L w h (tb_isL st) Z → rf_C w h st (tb_ne w h) Z → rf_W w h (tb_askE w h num st (e + 1)) Z → jq_J l G mX6_asks (jq_R 5 0 0) jq_E0 (xs_Ye G n ad (xs_pv (fun X' => xs_fr [29, 30, 31, 34, 35, 36] [] X X' ∧ rf_S w h st X' ∧ rf_W w h (tb_asks w h num st) X'))) 300 [some (.ref (ad 21)), some (.int (nI (e))), o2, o3] [] n ad (xs_mem G ad Z) 0 0 := by
        intro Z hfZ hZ hLZ hCZ hWZ
        refine jq_iincN dX6_asks_300 (by decide) rfl rfl rfl ?_
        refine jq_goto (tgt := 180) dX6_asks_303 (by decide) ?_
        exact ih (e + 1) _ _ Z (by omega) hfZ hZ hLZ hCZ hWZ
      -- rule 7
      have h238 : ∀ Z : xs_T, xs_fr [29, 30, 31, 34, 35, 36] [] X Z → rf_S w h st Z → rf_L w h (tb_isL st) Z → rf_C w h st (tb_ne w h) Z → rf_W w h (tb_askE6 w h num st (tb_askE w h num st e) e) Z → jq_J l G mX6_asks (jq_R 5 0 0) jq_E0 (xs_Ye G n ad (xs_pv (fun X' => xs_fr [29, 30, 31, 34, 35, 36] [] X X' ∧ rf_S w h st X' ∧ rf_W w h (tb_asks w h num st) X'))) 238 [some (.ref (ad 21)), some (.int (nI (e))), o2, o3] [] n ad (xs_mem G ad Z) 0 0 := by
        intro Z hfZ hZ hLZ hCZ hWZ
        have hT2 := rf_fr hT hfZ
        have h1 := hT2.2.2.2.2.2.2.2.2.1 e he
        have h2 := hT2.2.2.2.2.2.2.2.2.2.1 e he
        have hA := hCZ _ hb.2.2.2.1
        have hB := hCZ _ hb.2.2.2.2
        have h295 : (tb_chE w h st).1 (tb_are w h e) = (tb_chE w h st).1 (tb_bes w h e) → ∀ v : Nat, v = (if (tb_chE w h st).2.1 (tb_are w h e) = (tb_chE w h st).2.1 (tb_bes w h e) then 2 else 1) → jq_J l G mX6_asks (jq_R 5 0 0) jq_E0 (xs_Ye G n ad (xs_pv (fun X' => xs_fr [29, 30, 31, 34, 35, 36] [] X X' ∧ rf_S w h st X' ∧ rf_W w h (tb_asks w h num st) X'))) 295 [some (.ref (ad 21)), some (.int (nI (e))), o2, o3] [.int (nI (v)), .int (nI (e)), .ref (ad 21)] n ad (xs_mem G ad Z) 0 0 := by
          intro hsm v hv
          have hv3 : v ≤ 3 := by rw [hv]; split <;> omega
          refine jq_bipush (v := (nI 7)) dX6_asks_295 (by decide) ?_
          refine xq_rV dX6_asks_297 kX6_134 (c_X6_want hn hT2 hZ hWZ he hv3 (by decide)) (xs_lt (by decide) hn) ⟨rfl, rfl⟩ rfl rfl (Nat.le_of_ble_eq_true rfl) ⟨⟨by decide, by decide⟩, Nat.le_refl _, Nat.le_refl _⟩ (fun X297 h297 => ?_)
          exact h300 _ (xs_fr_tr hfZ (xs_fr_mo h297.1 (by decide))) (rf_sfr hZ h297.1) (rf_lfr hLZ h297.1) (rf_cfr hCZ h297.1) (by rw [tb_askE]; unfold tb_askE7; rw [if_pos hsm, ← hv]; exact h297.2)
        refine jq_aload_n dX6_asks_238 rfl rfl ?_
        refine xq_getR 35 fX6_49 dX6_asks_239 (xs_lt (by decide) hn) (by decide) ?_
        refine jq_aload_n dX6_asks_242 rfl rfl ?_
        refine xq_getR 24 fX6_16 dX6_asks_243 (xs_lt (by decide) hn) (by decide) ?_
        refine jq_iload_n dX6_asks_246 rfl rfl ?_
        refine xq_iaload dX6_asks_247 (xs_lt (by decide) hn) rfl hi (xs_rd h1 (by omega)) ?_
        refine xq_iaload dX6_asks_248 (xs_lt (by decide) hn) rfl hia (xs_rd hA.1 (by omega)) ?_
        refine jq_aload_n dX6_asks_249 rfl rfl ?_
        refine xq_getR 35 fX6_49 dX6_asks_250 (xs_lt (by decide) hn) (by decide) ?_
        refine jq_aload_n dX6_asks_253 rfl rfl ?_
        refine xq_getR 25 fX6_19 dX6_asks_254 (xs_lt (by decide) hn) (by decide) ?_
        refine jq_iload_n dX6_asks_257 rfl rfl ?_
        refine xq_iaload dX6_asks_258 (xs_lt (by decide) hn) rfl hi (xs_rd h2 (by omega)) ?_
        refine xq_iaload dX6_asks_259 (xs_lt (by decide) hn) rfl hib (xs_rd hB.1 (by omega)) ?_
        refine jq_neN (tgt := 300) dX6_asks_260 (by decide) ⟨by omega, by omega⟩ (fun c260 => ?_) (fun c260 => ?_)
        · exact h300 Z hfZ hZ hLZ hCZ (by rw [tb_askE]; unfold tb_askE7 tb_chE; rw [if_neg c260]; exact hWZ)
        · refine jq_aload_n dX6_asks_263 rfl rfl ?_
          refine jq_iload_n dX6_asks_264 rfl rfl ?_
          refine jq_aload_n dX6_asks_265 rfl rfl ?_
          refine xq_getR 36 fX6_52 dX6_asks_266 (xs_lt (by decide) hn) (by decide) ?_
          refine jq_aload_n dX6_asks_269 rfl rfl ?_
          refine xq_getR 24 fX6_16 dX6_asks_270 (xs_lt (by decide) hn) (by decide) ?_
          refine jq_iload_n dX6_asks_273 rfl rfl ?_
          refine xq_iaload dX6_asks_274 (xs_lt (by decide) hn) rfl hi (xs_rd h1 (by omega)) ?_
          refine xq_baload dX6_asks_275 (xs_lt (by decide) hn) rfl hia (xs_rd hA.2 (by omega)) ?_
          refine jq_aload_n dX6_asks_276 rfl rfl ?_
          refine xq_getR 36 fX6_52 dX6_asks_277 (xs_lt (by decide) hn) (by decide) ?_
          refine jq_aload_n dX6_asks_280 rfl rfl ?_
          refine xq_getR 25 fX6_19 dX6_asks_281 (xs_lt (by decide) hn) (by decide) ?_
          refine jq_iload_n dX6_asks_284 rfl rfl ?_
          refine xq_iaload dX6_asks_285 (xs_lt (by decide) hn) rfl hi (xs_rd h2 (by omega)) ?_
          refine xq_baload dX6_asks_286 (xs_lt (by decide) hn) rfl hib (xs_rd hB.2 (by omega)) ?_
          refine jq_icmp_eq (tgt := 294) dX6_asks_287 (by decide) (fun c287 => ?_) (fun c287 => ?_)
          · refine jq_iconst (v := (nI 2)) dX6_asks_294 (by decide) ?_
            exact h295 c260 _ (by first | exact (if_pos (tb_b_eq.mp c287)).symm | exact (if_neg (fun q => c287 (tb_b_eq.mpr q))).symm)
          · refine jq_iconst (v := (nI 1)) dX6_asks_290 (by decide) ?_
            refine jq_goto (tgt := 295) dX6_asks_291 (by decide) ?_
            exact h295 c260 _ (by first | exact (if_pos (tb_b_eq.mp c287)).symm | exact (if_neg (fun q => c287 (tb_b_eq.mpr q))).symm)
      have hT2 := rf_fr hT hf
      have h1 := hT2.2.2.2.2.2.2.1 e he
      have h2 := hT2.2.2.2.2.2.2.2.1 e he
      have h3 := hY e he
      have hN2 := rf_nfr hN hf
      have hno : ¬ (st e = 0 ∧ tb_L w h (tb_isL st) (tb_one w h e) = tb_L w h (tb_isL st) (tb_oth w h e) ∧ tb_closes w h num st e = false) → jq_J l G mX6_asks (jq_R 5 0 0) jq_E0 (xs_Ye G n ad (xs_pv (fun X' => xs_fr [29, 30, 31, 34, 35, 36] [] X X' ∧ rf_S w h st X' ∧ rf_W w h (tb_asks w h num st) X'))) 238 [some (.ref (ad 21)), some (.int (nI (e))), o2, o3] [] n ad (xs_mem G ad Y) 0 0 := fun q => h238 Y hf hY hLY hCY (by unfold tb_askE6; rw [if_neg q]; exact hWY)
      refine jq_iload_n dX6_asks_180 rfl rfl ?_
      refine jq_aload_n dX6_asks_181 rfl rfl ?_
      refine xq_getI fX6_74 dX6_asks_182 (xs_lt (by decide) hn) (by decide) hT2.2.2.2.2.1 ?_
      refine jq_geN (tgt := 306) dX6_asks_185 (by decide) ⟨by omega, by omega⟩ (fun c185 => ?_) (fun c185 => ?_)
      · exact absurd c185 (by omega)
      · refine jq_aload_n dX6_asks_188 rfl rfl ?_
        refine xq_getR 29 fX6_31 dX6_asks_189 (xs_lt (by decide) hn) (by decide) ?_
        refine jq_iload_n dX6_asks_192 rfl rfl ?_
        refine xq_iaload dX6_asks_193 (xs_lt (by decide) hn) rfl hi (xs_rd h3.1 (by omega)) ?_
        refine jq_neZ (tgt := 238) dX6_asks_194 (by decide) (by omega) (fun c194 => ?_) (fun c194 => ?_)
        · exact hno (fun q => c194 q.1)
        · refine jq_aload_n dX6_asks_197 rfl rfl ?_
          refine xq_getR 34 fX6_46 dX6_asks_198 (xs_lt (by decide) hn) (by decide) ?_
          refine jq_aload_n dX6_asks_201 rfl rfl ?_
          refine xq_getR 22 fX6_7 dX6_asks_202 (xs_lt (by decide) hn) (by decide) ?_
          refine jq_iload_n dX6_asks_205 rfl rfl ?_
          refine xq_iaload dX6_asks_206 (xs_lt (by decide) hn) rfl hi (xs_rd h1 (by omega)) ?_
          refine xq_iaload dX6_asks_207 (xs_lt (by decide) hn) rfl hi1 (xs_rd (hLY _ hb.1) (by omega)) ?_
          refine jq_aload_n dX6_asks_208 rfl rfl ?_
          refine xq_getR 34 fX6_46 dX6_asks_209 (xs_lt (by decide) hn) (by decide) ?_
          refine jq_aload_n dX6_asks_212 rfl rfl ?_
          refine xq_getR 23 fX6_13 dX6_asks_213 (xs_lt (by decide) hn) (by decide) ?_
          refine jq_iload_n dX6_asks_216 rfl rfl ?_
          refine xq_iaload dX6_asks_217 (xs_lt (by decide) hn) rfl hi (xs_rd h2 (by omega)) ?_
          refine xq_iaload dX6_asks_218 (xs_lt (by decide) hn) rfl hi2 (xs_rd (hLY _ hb.2.1) (by omega)) ?_
          refine jq_neN (tgt := 238) dX6_asks_219 (by decide) ⟨by omega, by omega⟩ (fun c219 => ?_) (fun c219 => ?_)
          · exact hno (fun q => c219 q.2.1)
          · refine jq_aload_n dX6_asks_222 rfl rfl ?_
            refine jq_iload_n dX6_asks_223 rfl rfl ?_
            refine xq_rI dX6_asks_224 kX6_147 (c_X6_closes hn hT2 hY hN2 he c194) (xs_lt (by decide) hn) ⟨rfl, rfl⟩ rfl rfl (Nat.le_of_ble_eq_true rfl) ⟨⟨by decide, by decide⟩, Nat.le_refl _, Nat.le_refl _⟩ (fun v224 X224 h224 => ?_)
            obtain ⟨rfl, hf4, hS4, hL4⟩ := h224
            have hf5 := xs_fr_tr hf (xs_fr_mo (S' := [29, 30, 31, 34, 35, 36]) (F' := []) hf4 (by decide))
            have hC4 := rf_cfr hCY hf4
            have hW4 := rf_wfr hWY hf4
            have hT4 := rf_fr hT hf5
            refine jq_if_ne (tgt := 238) dX6_asks_227 (by decide) (fun c227 => ?_) (fun c227 => ?_)
            · exact h238 _ hf5 hS4 hL4 hC4 (by unfold tb_askE6; rw [if_neg (fun q => c227 (tb_b0.mpr q.2.2))]; exact hW4)
            · refine jq_aload_n dX6_asks_230 rfl rfl ?_
              refine jq_iload_n dX6_asks_231 rfl rfl ?_
              refine jq_iconst (v := (nI 2)) dX6_asks_232 (by decide) ?_
              refine jq_bipush (v := (nI 6)) dX6_asks_233 (by decide) ?_
              refine xq_rV dX6_asks_235 kX6_134 (c_X6_want hn hT4 hS4 hW4 he (by decide) (by decide)) (xs_lt (by decide) hn) ⟨rfl, rfl⟩ rfl rfl (Nat.le_of_ble_eq_true rfl) ⟨⟨by decide, by decide⟩, Nat.le_refl _, Nat.le_refl _⟩ (fun X235 h235 => ?_)
              exact h238 _ (xs_fr_tr hf5 (xs_fr_mo h235.1 (by decide))) (rf_sfr hS4 h235.1) (rf_lfr hL4 h235.1) (rf_cfr hC4 h235.1) (by unfold tb_askE6; rw [if_pos ⟨c194, c219, tb_b0.mp c227⟩]; exact h235.2)
  -- the points
  have loop3 : ∀ (k p : Nat) (o2 o3 : Option Value) (Y : xs_T), p + k = tb_np w h → xs_fr [29, 30, 31, 34, 35, 36] [] X Y → rf_S w h st Y → rf_W w h (tb_askP w h num st p) Y → jq_J l G mX6_asks (jq_R 5 0 0) jq_E0 (xs_Ye G n ad (xs_pv (fun X' => xs_fr [29, 30, 31, 34, 35, 36] [] X X' ∧ rf_S w h st X' ∧ rf_W w h (tb_asks w h num st) X'))) 96 [some (.ref (ad 21)), some (.int (nI (p))), o2, o3] [] n ad (xs_mem G ad Y) 0 0 := by
    intro k
    induction k with
    | zero =>
      intro p o2 o3 Y hk hf hY hWY
      have hT2 := rf_fr hT hf
      refine jq_iload_n dX6_asks_96 rfl rfl ?_
      refine jq_aload_n dX6_asks_97 rfl rfl ?_
      refine xq_getI fX6_83 dX6_asks_98 (xs_lt (by decide) hn) (by decide) hT2.2.2.2.2.2.1 ?_
      refine jq_geN (tgt := 169) dX6_asks_101 (by decide) ⟨by omega, by omega⟩ (fun c101 => ?_) (fun c101 => ?_)
      · refine jq_aload_n dX6_asks_169 rfl rfl ?_
        refine xq_rV dX6_asks_170 kX6_121 (c_X6_labels hn hT2 hY) (xs_lt (by decide) hn) ⟨rfl, rfl⟩ rfl rfl (Nat.le_of_ble_eq_true rfl) ⟨⟨by decide, by decide⟩, Nat.le_refl _, Nat.le_refl _⟩ (fun X170 h170 => ?_)
        have hf1 := xs_fr_tr hf (xs_fr_mo (S' := [29, 30, 31, 34, 35, 36]) (F' := []) h170.1 (by decide))
        have hS1 := rf_sfr hY h170.1
        refine jq_aload_n dX6_asks_173 rfl rfl ?_
        refine xq_rI dX6_asks_174 kX6_131 (c_X6_chains hn (rf_fr hT hf1) hS1) (xs_lt (by decide) hn) ⟨rfl, rfl⟩ rfl rfl (Nat.le_of_ble_eq_true rfl) ⟨⟨by decide, by decide⟩, Nat.le_refl _, Nat.le_refl _⟩ (fun v174 X174 h174 => ?_)
        obtain ⟨rfl, hf2, hC2⟩ := h174
        refine jq_pop dX6_asks_177 rfl ?_
        refine jq_iconst (v := (nI 0)) dX6_asks_178 (by decide) ?_
        refine jq_istore_n dX6_asks_179 rfl (by decide) rfl rfl ?_
        exact loop4 (tb_ne w h) 0 _ _ _ (by omega) (xs_fr_tr hf1 (xs_fr_mo hf2 (by decide))) (rf_sfr hS1 hf2) (rf_lfr h170.2 hf2) hC2 (rf_wfr (by rw [tb_askE, show tb_np w h = p by omega]; exact rf_wfr hWY h170.1) hf2)
      · exact absurd c101 (by omega)
    | succ k ih =>
      intro p o2 o3 Y hk hf hY hWY
      have hd := tb_at_le hT.1 st p 1
      have hd0 := tb_at_le hT.1 st p 0
      have h163 : ∀ Z : xs_T, xs_fr [29, 30, 31, 34, 35, 36] [] X Z → rf_S w h st Z → rf_W w h (tb_askP w h num st (p + 1)) Z → jq_J l G mX6_asks (jq_R 5 0 0) jq_E0 (xs_Ye G n ad (xs_pv (fun X' => xs_fr [29, 30, 31, 34, 35, 36] [] X X' ∧ rf_S w h st X' ∧ rf_W w h (tb_asks w h num st) X'))) 163 [some (.ref (ad 21)), some (.int (nI (p))), some (.int (nI (tb_at w h st p 1))), some (.int (nI (tb_at w h st p 0)))] [] n ad (xs_mem G ad Z) 0 0 := by
        intro Z hfZ hZ hWZ
        refine jq_iincN dX6_asks_163 (by decide) rfl rfl rfl ?_
        refine jq_goto (tgt := 96) dX6_asks_166 (by decide) ?_
        exact ih (p + 1) _ _ Z (by omega) hfZ hZ hWZ
      have h147 : ∀ Z : xs_T, xs_fr [29, 30, 31, 34, 35, 36] [] X Z → rf_S w h st Z → rf_W w h (tb_askP2 w h st (tb_askP1 w h st (tb_askP w h num st p) p) p) Z → jq_J l G mX6_asks (jq_R 5 0 0) jq_E0 (xs_Ye G n ad (xs_pv (fun X' => xs_fr [29, 30, 31, 34, 35, 36] [] X X' ∧ rf_S w h st X' ∧ rf_W w h (tb_asks w h num st) X'))) 147 [some (.ref (ad 21)), some (.int (nI (p))), some (.int (nI (tb_at w h st p 1))), some (.int (nI (tb_at w h st p 0)))] [] n ad (xs_mem G ad Z) 0 0 := by
        intro Z hfZ hZ hWZ
        refine jq_iload_n dX6_asks_147 rfl rfl ?_
        refine jq_neZ (tgt := 163) dX6_asks_148 (by decide) (by omega) (fun c148 => ?_) (fun c148 => ?_)
        · first | exact h163 _ (xs_fr_tr hfZ (xs_fr_mo h160.1 (by decide))) (rf_sfr hZ h160.1) hg | exact h163 Z hfZ hZ (by rw [tb_askP]; unfold tb_askP3; rw [if_neg (by unfold tb_deg; omega)]; exact hWZ)
        · refine jq_iload_n dX6_asks_151 rfl rfl ?_
          refine jq_iconst (v := (nI 1)) dX6_asks_152 (by decide) ?_
          refine jq_neN (tgt := 163) dX6_asks_153 (by decide) ⟨by omega, by omega⟩ (fun c153 => ?_) (fun c153 => ?_)
          · first | exact h163 _ (xs_fr_tr hfZ (xs_fr_mo h160.1 (by decide))) (rf_sfr hZ h160.1) hg | exact h163 Z hfZ hZ (by rw [tb_askP]; unfold tb_askP3; rw [if_neg (by unfold tb_deg; omega)]; exact hWZ)
          · refine jq_aload_n dX6_asks_156 rfl rfl ?_
            refine jq_iload_n dX6_asks_157 rfl rfl ?_
            refine jq_iconst (v := (nI 2)) dX6_asks_158 (by decide) ?_
            refine jq_iconst (v := (nI 5)) dX6_asks_159 (by decide) ?_
            refine xq_rV dX6_asks_160 kX6_144 (c_X6_wantAt hn (rf_fr hT hfZ) hZ hWZ (by omega) (by decide) (by decide)) (xs_lt (by decide) hn) ⟨rfl, rfl⟩ rfl rfl (Nat.le_of_ble_eq_true rfl) ⟨⟨by decide, by decide⟩, Nat.le_refl _, Nat.le_refl _⟩ (fun X160 h160 => ?_)
            have hg : rf_W w h (tb_askP w h num st (p + 1)) X160 := by
              rw [tb_askP]; unfold tb_askP3; rw [if_pos (by unfold tb_deg; exact ⟨c148, c153⟩)]; exact h160.2
            first | exact h163 _ (xs_fr_tr hfZ (xs_fr_mo h160.1 (by decide))) (rf_sfr hZ h160.1) hg | exact h163 Z hfZ hZ (by rw [tb_askP]; unfold tb_askP3; rw [if_neg (by unfold tb_deg; omega)]; exact hWZ)
      have h130 : ∀ Z : xs_T, xs_fr [29, 30, 31, 34, 35, 36] [] X Z → rf_S w h st Z → rf_W w h (tb_askP1 w h st (tb_askP w h num st p) p) Z → jq_J l G mX6_asks (jq_R 5 0 0) jq_E0 (xs_Ye G n ad (xs_pv (fun X' => xs_fr [29, 30, 31, 34, 35, 36] [] X X' ∧ rf_S w h st X' ∧ rf_W w h (tb_asks w h num st) X'))) 130 [some (.ref (ad 21)), some (.int (nI (p))), some (.int (nI (tb_at w h st p 1))), some (.int (nI (tb_at w h st p 0)))] [] n ad (xs_mem G ad Z) 0 0 := by
        intro Z hfZ hZ hWZ
        refine jq_iload_n dX6_asks_130 rfl rfl ?_
        refine jq_iconst (v := (nI 1)) dX6_asks_131 (by decide) ?_
        refine jq_neN (tgt := 147) dX6_asks_132 (by decide) ⟨by omega, by omega⟩ (fun c132 => ?_) (fun c132 => ?_)
        · first | exact h147 _ (xs_fr_tr hfZ (xs_fr_mo h144.1 (by decide))) (rf_sfr hZ h144.1) hg | exact h147 Z hfZ hZ (by unfold tb_askP2; rw [if_neg (by unfold tb_deg; omega)]; exact hWZ)
        · refine jq_iload_n dX6_asks_135 rfl rfl ?_
          refine jq_iconst (v := (nI 1)) dX6_asks_136 (by decide) ?_
          refine jq_neN (tgt := 147) dX6_asks_137 (by decide) ⟨by omega, by omega⟩ (fun c137 => ?_) (fun c137 => ?_)
          · first | exact h147 _ (xs_fr_tr hfZ (xs_fr_mo h144.1 (by decide))) (rf_sfr hZ h144.1) hg | exact h147 Z hfZ hZ (by unfold tb_askP2; rw [if_neg (by unfold tb_deg; omega)]; exact hWZ)
          · refine jq_aload_n dX6_asks_140 rfl rfl ?_
            refine jq_iload_n dX6_asks_141 rfl rfl ?_
            refine jq_iconst (v := (nI 1)) dX6_asks_142 (by decide) ?_
            refine jq_iconst (v := (nI 4)) dX6_asks_143 (by decide) ?_
            refine xq_rV dX6_asks_144 kX6_144 (c_X6_wantAt hn (rf_fr hT hfZ) hZ hWZ (by omega) (by decide) (by decide)) (xs_lt (by decide) hn) ⟨rfl, rfl⟩ rfl rfl (Nat.le_of_ble_eq_true rfl) ⟨⟨by decide, by decide⟩, Nat.le_refl _, Nat.le_refl _⟩ (fun X144 h144 => ?_)
            have hg : rf_W w h (tb_askP2 w h st (tb_askP1 w h st (tb_askP w h num st p) p) p) X144 := by
              unfold tb_askP2; rw [if_pos (by unfold tb_deg; exact ⟨c132, c137⟩)]; exact h144.2
            first | exact h147 _ (xs_fr_tr hfZ (xs_fr_mo h144.1 (by decide))) (rf_sfr hZ h144.1) hg | exact h147 Z hfZ hZ (by unfold tb_askP2; rw [if_neg (by unfold tb_deg; omega)]; exact hWZ)
      have hT2 := rf_fr hT hf
      refine jq_iload_n dX6_asks_96 rfl rfl ?_
      refine jq_aload_n dX6_asks_97 rfl rfl ?_
      refine xq_getI fX6_83 dX6_asks_98 (xs_lt (by decide) hn) (by decide) hT2.2.2.2.2.2.1 ?_
      refine jq_geN (tgt := 169) dX6_asks_101 (by decide) ⟨by omega, by omega⟩ (fun c101 => ?_) (fun c101 => ?_)
      · exact absurd c101 (by omega)
      · refine jq_aload_n dX6_asks_104 rfl rfl ?_
        refine jq_iload_n dX6_asks_105 rfl rfl ?_
        refine jq_iconst (v := (nI 1)) dX6_asks_106 (by decide) ?_
        refine xq_vI dX6_asks_107 kX6_114 (c_X6_at hn hT2 hY (by omega) (by decide)) (xs_lt (by decide) hn) ⟨rfl, rfl⟩ rfl rfl (Nat.le_of_ble_eq_true rfl) ⟨⟨by decide, by decide⟩, Nat.le_refl _, Nat.le_refl _⟩ ?_
        refine jq_istore_n dX6_asks_110 rfl (by decide) rfl rfl ?_
        refine jq_aload_n dX6_asks_111 rfl rfl ?_
        refine jq_iload_n dX6_asks_112 rfl rfl ?_
        refine jq_iconst (v := (nI 0)) dX6_asks_113 (by decide) ?_
        refine xq_vI dX6_asks_114 kX6_114 (c_X6_at hn hT2 hY (by omega) (by decide)) (xs_lt (by decide) hn) ⟨rfl, rfl⟩ rfl rfl (Nat.le_of_ble_eq_true rfl) ⟨⟨by decide, by decide⟩, Nat.le_refl _, Nat.le_refl _⟩ ?_
        refine jq_istore_n dX6_asks_117 rfl (by decide) rfl rfl ?_
        refine jq_iload_n dX6_asks_118 rfl rfl ?_
        refine jq_iconst (v := (nI 2)) dX6_asks_119 (by decide) ?_
        refine jq_neN (tgt := 130) dX6_asks_120 (by decide) ⟨by omega, by omega⟩ (fun c120 => ?_) (fun c120 => ?_)
        · first | exact h130 _ (xs_fr_tr hf (xs_fr_mo h127.1 (by decide))) (rf_sfr hY h127.1) hg | exact h130 Y hf hY (by unfold tb_askP1; rw [if_neg (by unfold tb_deg; exact c120)]; exact hWY)
        · refine jq_aload_n dX6_asks_123 rfl rfl ?_
          refine jq_iload_n dX6_asks_124 rfl rfl ?_
          refine jq_iconst (v := (nI 2)) dX6_asks_125 (by decide) ?_
          refine jq_iconst (v := (nI 3)) dX6_asks_126 (by decide) ?_
          refine xq_rV dX6_asks_127 kX6_144 (c_X6_wantAt hn hT2 hY hWY (by omega) (by decide) (by decide)) (xs_lt (by decide) hn) ⟨rfl, rfl⟩ rfl rfl (Nat.le_of_ble_eq_true rfl) ⟨⟨by decide, by decide⟩, Nat.le_refl _, Nat.le_refl _⟩ (fun X127 h127 => ?_)
          have hg : rf_W w h (tb_askP1 w h st (tb_askP w h num st p) p) X127 := by
            unfold tb_askP1; rw [if_pos (by unfold tb_deg; exact c120)]; exact h127.2
          first | exact h130 _ (xs_fr_tr hf (xs_fr_mo h127.1 (by decide))) (rf_sfr hY h127.1) hg | exact h130 Y hf hY (by unfold tb_askP1; rw [if_neg (by unfold tb_deg; exact c120)]; exact hWY)
  -- the cells
  have loop2 : ∀ (k c : Nat) (o2 o3 : Option Value) (Y : xs_T), c + k = tb_nc w h → xs_fr [29, 30, 31, 34, 35, 36] [] X Y → rf_S w h st Y → rf_W w h (tb_askC w h num st c) Y → jq_J l G mX6_asks (jq_R 5 0 0) jq_E0 (xs_Ye G n ad (xs_pv (fun X' => xs_fr [29, 30, 31, 34, 35, 36] [] X X' ∧ rf_S w h st X' ∧ rf_W w h (tb_asks w h num st) X'))) 32 [some (.ref (ad 21)), some (.int (nI (c))), o2, o3] [] n ad (xs_mem G ad Y) 0 0 := by
    intro k
    induction k with
    | zero =>
      intro c o2 o3 Y hk hf hY hWY
      have hT2 := rf_fr hT hf
      refine jq_iload_n dX6_asks_32 rfl rfl ?_
      refine jq_aload_n dX6_asks_33 rfl rfl ?_
      refine xq_getI fX6_71 dX6_asks_34 (xs_lt (by decide) hn) (by decide) hT2.2.2.2.1 ?_
      refine jq_geN (tgt := 94) dX6_asks_37 (by decide) ⟨by omega, by omega⟩ (fun c37 => ?_) (fun c37 => ?_)
      · refine jq_iconst (v := (nI 0)) dX6_asks_94 (by decide) ?_
        refine jq_istore_n dX6_asks_95 rfl (by decide) rfl rfl ?_
        exact loop3 (tb_np w h) 0 _ _ Y (by omega) hf hY (by rw [tb_askP, show tb_nc w h = c by omega]; exact hWY)
      · exact absurd c37 (by omega)
    | succ k ih =>
      intro c o2 o3 Y hk hf hY hWY
      have hc : c < tb_nc w h := by omega
      have hi : vp_in (nI c) 16 := vp_inN (by omega) (by decide)
      have h88 : ∀ Z : xs_T, xs_fr [29, 30, 31, 34, 35, 36] [] X Z → rf_S w h st Z → rf_W w h (tb_askC w h num st (c + 1)) Z → jq_J l G mX6_asks (jq_R 5 0 0) jq_E0 (xs_Ye G n ad (xs_pv (fun X' => xs_fr [29, 30, 31, 34, 35, 36] [] X X' ∧ rf_S w h st X' ∧ rf_W w h (tb_asks w h num st) X'))) 88 [some (.ref (ad 21)), some (.int (nI (c))), some (.int (nI (tb_ar w h st c 1))), o3] [] n ad (xs_mem G ad Z) 0 0 := by
        intro Z hfZ hZ hWZ
        refine jq_iincN dX6_asks_88 (by decide) rfl rfl rfl ?_
        refine jq_goto (tgt := 32) dX6_asks_91 (by decide) ?_
        exact ih (c + 1) _ _ Z (by omega) hfZ hZ hWZ
      have h64 : ∀ Z : xs_T, xs_fr [29, 30, 31, 34, 35, 36] [] X Z → rf_S w h st Z → rf_W w h (if num c = nI (tb_ar w h st c 1) then tb_wantA w h st (tb_askC w h num st c) c 2 1 4 else tb_askC w h num st c) Z → jq_J l G mX6_asks (jq_R 5 0 0) jq_E0 (xs_Ye G n ad (xs_pv (fun X' => xs_fr [29, 30, 31, 34, 35, 36] [] X X' ∧ rf_S w h st X' ∧ rf_W w h (tb_asks w h num st) X'))) 64 [some (.ref (ad 21)), some (.int (nI (c))), some (.int (nI (tb_ar w h st c 1))), o3] [] n ad (xs_mem G ad Z) 0 0 := by
        intro Z hfZ hZ hWZ
        have hT2 := rf_fr hT hfZ
        have h3 := rf_nfr hN hfZ (by decide) c hc
        refine jq_aload_n dX6_asks_64 rfl rfl ?_
        refine xq_getR 27 fX6_25 dX6_asks_65 (xs_lt (by decide) hn) (by decide) ?_
        refine jq_iload_n dX6_asks_68 rfl rfl ?_
        refine xq_iaload dX6_asks_69 (xs_lt (by decide) hn) rfl hi (xs_rd h3 (by omega)) ?_
        refine jq_iload_n dX6_asks_70 rfl rfl ?_
        refine jq_aload_n dX6_asks_71 rfl rfl ?_
        refine jq_iload_n dX6_asks_72 rfl rfl ?_
        refine jq_iconst (v := (nI 0)) dX6_asks_73 (by decide) ?_
        refine xq_vI dX6_asks_74 kX6_111 (c_X6_around hn hT2 hZ (by omega) (by decide)) (xs_lt (by decide) hn) ⟨rfl, rfl⟩ rfl rfl (Nat.le_of_ble_eq_true rfl) ⟨⟨by decide, by decide⟩, Nat.le_refl _, Nat.le_refl _⟩ ?_
        refine jq_iaddN dX6_asks_77 ?_
        refine jq_icmp_ne (tgt := 88) dX6_asks_78 (by decide) (fun c78 => ?_) (fun c78 => ?_)
        · first | exact h88 _ (xs_fr_tr hfZ (xs_fr_mo h85.1 (by decide))) (rf_sfr hZ h85.1) hg | exact h88 Z hfZ hZ (by rw [tb_askC]; rw [if_neg c78]; exact hWZ)
        · refine jq_aload_n dX6_asks_81 rfl rfl ?_
          refine jq_iload_n dX6_asks_82 rfl rfl ?_
          refine jq_iconst (v := (nI 1)) dX6_asks_83 (by decide) ?_
          refine jq_iconst (v := (nI 2)) dX6_asks_84 (by decide) ?_
          refine xq_rV dX6_asks_85 kX6_141 (c_X6_wantAround hn hT2 hZ hWZ hc (by decide) (by decide)) (xs_lt (by decide) hn) ⟨rfl, rfl⟩ rfl rfl (Nat.le_of_ble_eq_true rfl) ⟨⟨by decide, by decide⟩, Nat.le_refl _, Nat.le_refl _⟩ (fun X85 h85 => ?_)
          have hg : rf_W w h (tb_askC w h num st (c + 1)) X85 := by
            rw [tb_askC]; rw [if_pos c78]; exact h85.2
          first | exact h88 _ (xs_fr_tr hfZ (xs_fr_mo h85.1 (by decide))) (rf_sfr hZ h85.1) hg | exact h88 Z hfZ hZ (by rw [tb_askC]; rw [if_neg c78]; exact hWZ)
      have hT2 := rf_fr hT hf
      have h3 := rf_nfr hN hf (by decide) c hc
      refine jq_iload_n dX6_asks_32 rfl rfl ?_
      refine jq_aload_n dX6_asks_33 rfl rfl ?_
      refine xq_getI fX6_71 dX6_asks_34 (xs_lt (by decide) hn) (by decide) hT2.2.2.2.1 ?_
      refine jq_geN (tgt := 94) dX6_asks_37 (by decide) ⟨by omega, by omega⟩ (fun c37 => ?_) (fun c37 => ?_)
      · exact absurd c37 (by omega)
      · refine jq_aload_n dX6_asks_40 rfl rfl ?_
        refine jq_iload_n dX6_asks_41 rfl rfl ?_
        refine jq_iconst (v := (nI 1)) dX6_asks_42 (by decide) ?_
        refine xq_vI dX6_asks_43 kX6_111 (c_X6_around hn hT2 hY (by omega) (by decide)) (xs_lt (by decide) hn) ⟨rfl, rfl⟩ rfl rfl (Nat.le_of_ble_eq_true rfl) ⟨⟨by decide, by decide⟩, Nat.le_refl _, Nat.le_refl _⟩ ?_
        refine jq_istore_n dX6_asks_46 rfl (by decide) rfl rfl ?_
        refine jq_aload_n dX6_asks_47 rfl rfl ?_
        refine xq_getR 27 fX6_25 dX6_asks_48 (xs_lt (by decide) hn) (by decide) ?_
        refine jq_iload_n dX6_asks_51 rfl rfl ?_
        refine xq_iaload dX6_asks_52 (xs_lt (by decide) hn) rfl hi (xs_rd h3 (by omega)) ?_
        refine jq_iload_n dX6_asks_53 rfl rfl ?_
        refine jq_icmp_ne (tgt := 64) dX6_asks_54 (by decide) (fun c54 => ?_) (fun c54 => ?_)
        · first | exact h64 _ (xs_fr_tr hf (xs_fr_mo h61.1 (by decide))) (rf_sfr hY h61.1) (by rw [if_pos c54]; exact h61.2) | exact h64 Y hf hY (by rw [if_neg c54]; exact hWY)
        · refine jq_aload_n dX6_asks_57 rfl rfl ?_
          refine jq_iload_n dX6_asks_58 rfl rfl ?_
          refine jq_iconst (v := (nI 2)) dX6_asks_59 (by decide) ?_
          refine jq_iconst (v := (nI 1)) dX6_asks_60 (by decide) ?_
          refine xq_rV dX6_asks_61 kX6_141 (c_X6_wantAround hn hT2 hY hWY hc (by decide) (by decide)) (xs_lt (by decide) hn) ⟨rfl, rfl⟩ rfl rfl (Nat.le_of_ble_eq_true rfl) ⟨⟨by decide, by decide⟩, Nat.le_refl _, Nat.le_refl _⟩ (fun X61 h61 => ?_)
          first | exact h64 _ (xs_fr_tr hf (xs_fr_mo h61.1 (by decide))) (rf_sfr hY h61.1) (by rw [if_pos c54]; exact h61.2) | exact h64 Y hf hY (by rw [if_neg c54]; exact hWY)
  -- the rows cleared
  have loop1 : ∀ (k e : Nat) (o2 o3 : Option Value) (Y : xs_T), e + k = tb_ne w h → xs_fr [29, 30, 31, 34, 35, 36] [] X Y → rf_S w h st Y → (∀ j, j < e → Y.2.2.1 30 j = nI 0 ∧ Y.2.2.1 31 j = nI 0) → jq_J l G mX6_asks (jq_R 5 0 0) jq_E0 (xs_Ye G n ad (xs_pv (fun X' => xs_fr [29, 30, 31, 34, 35, 36] [] X X' ∧ rf_S w h st X' ∧ rf_W w h (tb_asks w h num st) X'))) 2 [some (.ref (ad 21)), some (.int (nI (e))), o2, o3] [] n ad (xs_mem G ad Y) 0 0 := by
    intro k
    induction k with
    | zero =>
      intro e o2 o3 Y hk hf hY h0
      have hT2 := rf_fr hT hf
      refine jq_iload_n dX6_asks_2 rfl rfl ?_
      refine jq_aload_n dX6_asks_3 rfl rfl ?_
      refine xq_getI fX6_74 dX6_asks_4 (xs_lt (by decide) hn) (by decide) hT2.2.2.2.2.1 ?_
      refine jq_geN (tgt := 30) dX6_asks_7 (by decide) ⟨by omega, by omega⟩ (fun c7 => ?_) (fun c7 => ?_)
      · refine jq_iconst (v := (nI 0)) dX6_asks_30 (by decide) ?_
        refine jq_istore_n dX6_asks_31 rfl (by decide) rfl rfl ?_
        exact loop2 (tb_nc w h) 0 _ _ Y (by omega) hf hY (fun j hj => ⟨(h0 j (by omega)).1, (h0 j (by omega)).2, Nat.zero_le _, Nat.zero_le _⟩)
      · exact absurd c7 (by omega)
    | succ k ih =>
      intro e o2 o3 Y hk hf hY h0
      have hT2 := rf_fr hT hf
      have hi : vp_in (nI e) 40 := vp_inN (by omega) (by decide)
      refine jq_iload_n dX6_asks_2 rfl rfl ?_
      refine jq_aload_n dX6_asks_3 rfl rfl ?_
      refine xq_getI fX6_74 dX6_asks_4 (xs_lt (by decide) hn) (by decide) hT2.2.2.2.2.1 ?_
      refine jq_geN (tgt := 30) dX6_asks_7 (by decide) ⟨by omega, by omega⟩ (fun c7 => ?_) (fun c7 => ?_)
      · exact absurd c7 (by omega)
      · refine jq_aload_n dX6_asks_10 rfl rfl ?_
        refine xq_getR 30 fX6_34 dX6_asks_11 (xs_lt (by decide) hn) (by decide) ?_
        refine jq_iload_n dX6_asks_14 rfl rfl ?_
        refine jq_iconst (v := (nI 0)) dX6_asks_15 (by decide) ?_
        refine xq_iastore dX6_asks_16 (xs_lt (by decide) hn) rfl hi ?_
        refine jq_aload_n dX6_asks_17 rfl rfl ?_
        refine xq_getR 31 fX6_37 dX6_asks_18 (xs_lt (by decide) hn) (by decide) ?_
        refine jq_iload_n dX6_asks_21 rfl rfl ?_
        refine jq_iconst (v := (nI 0)) dX6_asks_22 (by decide) ?_
        refine xq_iastore dX6_asks_23 (xs_lt (by decide) hn) rfl hi ?_
        refine jq_iincN dX6_asks_24 (by decide) rfl rfl rfl ?_
        refine jq_goto (tgt := 2) dX6_asks_27 (by decide) ?_
        refine ih (e + 1) _ _ _ (by omega) (xs_fr_ai (xs_fr_ai hf (by decide)) (by decide)) (fun j hj => ?_) (fun j hj => ?_)
        · rw [xs_ai_ne (by decide), xs_ai_ne (by decide)]; exact hY j hj
        rw [xs_ai_at, xs_ai_ne (by decide), xs_ai_at]
        rcases Nat.lt_or_ge j e with q | q
        · rw [xs_upd_ne (by omega) (by omega), xs_upd_ne (by omega) (by omega)]; exact h0 j q
        · rw [show j = e by omega, xs_upd_at (by omega), xs_upd_at (by omega)]; exact ⟨rfl, rfl⟩
  refine xs_Ct_of (L := [some (.ref (ad 21)), none, none, none]) rfl (Nat.le_of_ble_eq_true rfl) rfl ?_
  refine jq_iconst (v := (nI 0)) dX6_asks_0 (by decide) ?_
  refine jq_istore_n dX6_asks_1 rfl (by decide) rfl rfl ?_
  exact loop1 (tb_ne w h) 0 _ _ X (by omega) xs_fr_rf hS (fun j hj => absurd hj (Nat.not_lt_zero j))
end
section
/-! the rounds: (states, round of each edge, rule of each edge, how many rounds, why they end) -/
abbrev tb_Go : Type := (Nat → Nat) × (Nat → Int32) × (Nat → Int32) × Nat × Nat
def tb_dec (W : tb_Wt) (st : Nat → Nat) : Nat → Nat := fun e => if W.1 e = 0 then st e else W.1 e
def tb_decR (W : tb_Wt) (rd : Nat → Int32) (c : Nat) : Nat → Int32 := fun e => if W.1 e = 0 then rd e else nI c
def tb_decL (W : tb_Wt) (rl : Nat → Int32) : Nat → Int32 := fun e => if W.1 e = 0 then rl e else nI (W.2 e)
def tb_torn (w h : Nat) (W : tb_Wt) : Bool := (List.range (tb_ne w h)).any (fun e => W.1 e == 3)
def tb_more (w h : Nat) (W : tb_Wt) : Bool := (List.range (tb_ne w h)).any (fun e => !(W.1 e == 0))
def tb_go (w h : Nat) (num : Nat → Int32) : Nat → (Nat → Nat) → (Nat → Int32) → (Nat → Int32) → Nat → tb_Go
  | 0, st, rd, rl, c => (st, rd, rl, c, 0)
  | k + 1, st, rd, rl, c =>
    if tb_broken w h num st ≠ 0 then (st, rd, rl, c, tb_broken w h num st)
    else if tb_torn w h (tb_asks w h num st) = true then (st, rd, rl, c, 5)
    else if tb_more w h (tb_asks w h num st) = true then tb_go w h num k (tb_dec (tb_asks w h num st) st) (tb_decR (tb_asks w h num st) rd (c + 1)) (tb_decL (tb_asks w h num st) rl) (c + 1)
    else (st, rd, rl, c, 0)
def tb_rd0 (mk : Nat → Nat) : Nat → Int32 := fun e => if mk e = 0 then -1 else 0
def tb_follow (w h : Nat) (num : Nat → Int32) (mk : Nat → Nat) : tb_Go := tb_go w h num 41 mk (tb_rd0 mk) (fun _ => -1) 0
/-- only unknown edges want anything -/
def tb_wok (st : Nat → Nat) (W : tb_Wt) : Prop := ∀ e, st e ≠ 0 → W.1 e = 0
theorem tb_wok_w {st : Nat → Nat} {W : tb_Wt} (h : tb_wok st W) (e how b : Nat) : tb_wok st (tb_want st W e how b) := by
  intro j hj
  unfold tb_want
  split
  · rename_i h0
    show (if j = e then _ else _) = 0
    rw [if_neg (fun q => hj (by rw [q]; exact h0))]
    exact h j hj
  · exact h j hj
theorem tb_wok_A {w h : Nat} {st : Nat → Nat} {W : tb_Wt} (hk : tb_wok st W) (c how b : Nat) : ∀ k, tb_wok st (tb_wantA w h st W c how b k)
  | 0 => hk
  | k + 1 => tb_wok_w (tb_wok_A hk c how b k) _ _ _
theorem tb_wok_P {w h : Nat} {st : Nat → Nat} {W : tb_Wt} (hk : tb_wok st W) (p how b : Nat) : ∀ k, tb_wok st (tb_wantP w h st W p how b k)
  | 0 => hk
  | k + 1 => by
    rw [tb_wantP]
    split
    · exact tb_wok_w (tb_wok_P hk p how b k) _ _ _
    · exact tb_wok_P hk p how b k
theorem tb_wok_C {w h : Nat} {num : Nat → Int32} {st : Nat → Nat} : ∀ c, tb_wok st (tb_askC w h num st c)
  | 0 => fun _ _ => rfl
  | c + 1 => by
    have ih := tb_wok_C (w := w) (h := h) (num := num) (st := st) c
    rw [tb_askC]
    repeat' split
    all_goals first | exact tb_wok_A (tb_wok_A ih _ _ _ _) _ _ _ _ | exact tb_wok_A ih _ _ _ _ | exact ih
theorem tb_wok_Q {w h : Nat} {num : Nat → Int32} {st : Nat → Nat} : ∀ p, tb_wok st (tb_askP w h num st p)
  | 0 => tb_wok_C _
  | p + 1 => by
    have ih := tb_wok_Q (w := w) (h := h) (num := num) (st := st) p
    have a1 : tb_wok st (tb_askP1 w h st (tb_askP w h num st p) p) := by unfold tb_askP1; split; exact tb_wok_P ih _ _ _ _; exact ih
    have a2 : tb_wok st (tb_askP2 w h st (tb_askP1 w h st (tb_askP w h num st p) p) p) := by unfold tb_askP2; split; exact tb_wok_P a1 _ _ _ _; exact a1
    rw [tb_askP]
    unfold tb_askP3
    split
    · exact tb_wok_P a2 _ _ _ _
    · exact a2
theorem tb_wok_E {w h : Nat} {num : Nat → Int32} {st : Nat → Nat} : ∀ e, tb_wok st (tb_askE w h num st e)
  | 0 => tb_wok_Q _
  | e + 1 => by
    have ih := tb_wok_E (w := w) (h := h) (num := num) (st := st) e
    have a1 : tb_wok st (tb_askE6 w h num st (tb_askE w h num st e) e) := by unfold tb_askE6; split; exact tb_wok_w ih _ _ _; exact ih
    rw [tb_askE]
    unfold tb_askE7
    split
    · exact tb_wok_w a1 _ _ _
    · exact a1
theorem tb_wok_all {w h : Nat} {num : Nat → Int32} {st : Nat → Nat} : tb_wok st (tb_asks w h num st) := tb_wok_E _
def tb_unk (w h : Nat) (st : Nat → Nat) : Nat := fb_ct (fun e => st e == 0) (tb_ne w h)
theorem tb_unk_lt {w h : Nat} {st : Nat → Nat} {W : tb_Wt} (hk : tb_wok st W) (hm : tb_more w h W = true) : tb_unk w h (tb_dec W st) < tb_unk w h st := by
  obtain ⟨e, he, h1⟩ := List.any_eq_true.mp hm
  have he := List.mem_range.mp he
  have hW : W.1 e ≠ 0 := by simpa using h1
  have hs : st e = 0 := Classical.byContradiction (fun q => hW (hk e q))
  have h2 : tb_unk w h (tb_dec W st) ≤ fb_ct (fun k => if k = e then false else st k == 0) (tb_ne w h) := by
    refine fb_ct_sub (fun k hk2 h3 => ?_)
    have h3 : tb_dec W st k = 0 := by simpa using h3
    unfold tb_dec at h3
    by_cases q : W.1 k = 0
    · rw [if_pos q] at h3
      have : k ≠ e := fun z => hW (z ▸ q)
      rw [if_neg this, h3]; rfl
    · rw [if_neg q] at h3
      exact absurd h3 q
  have h4 := fb_ct_upd (fun k => st k == 0) false he
  rw [hs] at h4
  have h5 : fb_ct (fun k => if k = e then false else st k == 0) (tb_ne w h) + 1 = tb_unk w h st + 0 := h4
  omega
/-- the reference's record behind its rounds -/
def rf_G (w h : Nat) (g : tb_Go) (X : xs_T) : Prop := rf_S w h g.1 X ∧ (∀ e, e < tb_ne w h → X.2.2.1 32 e = g.2.1 e ∧ X.2.2.1 33 e = g.2.2.1 e) ∧ X.1 21 17 = nI g.2.2.2.1 ∧ X.1 21 18 = nI g.2.2.2.2
def rf_M (w h : Nat) (mk : Nat → Nat) (X : xs_T) : Prop := ∀ e, e < tb_ne w h → X.2.2.1 28 e = nI (mk e) ∧ mk e ≤ 2
theorem rf_mfr {w h : Nat} {mk : Nat → Nat} {S : List Nat} {F : List (Nat × Nat)} {X Y : xs_T} (hS : rf_M w h mk X) (hf : xs_fr S F X Y) (hq : decide (28 ∈ S) = false := by decide) : rf_M w h mk Y := by
  intro e he
  rw [xs_fa hf 28 hq]
  exact hS e he
theorem tb_range_any {p : Nat → Bool} {q : Nat} : (List.range (q + 1)).any p = ((List.range q).any p || p q) := by simp [List.range_succ]
end
section
set_option maxHeartbeats 8000000 in
theorem c_X6_follow {l : Launch} {G : jq_G} {n : Nat} {ad : Nat → Nat} {X : xs_T} (hn : 39 ≤ n) {w h : Nat} {num : Nat → Int32} {mk : Nat → Nat} (hT : rf_T w h X) (hM : rf_M w h mk X) (hN : rf_N w h num X) : xs_Ct l G mX6_follow 6 [.ref (ad 21)] n ad X (xs_pv (fun X' => xs_fr [29, 30, 31, 32, 33, 34, 35, 36] [(21, 17), (21, 18)] X X' ∧ rf_G w h (tb_follow w h num mk) X')) := by
  have hz := tb_sizes hT.1
  -- the rounds
  have main : ∀ (k : Nat) (st : Nat → Nat) (rd rl : Nat → Int32) (c : Nat) (o2 : Option Value) (Y : xs_T), tb_unk w h st < k → xs_fr [29, 30, 31, 32, 33, 34, 35, 36] [(21, 17), (21, 18)] X Y → rf_S w h st Y → (∀ e, e < tb_ne w h → Y.2.2.1 32 e = rd e ∧ Y.2.2.1 33 e = rl e) → Y.1 21 17 = nI c → tb_go w h num k st rd rl c = tb_follow w h num mk → jq_J l G mX6_follow (jq_R 6 0 0) jq_E0 (xs_Ye G n ad (xs_pv (fun X' => xs_fr [29, 30, 31, 32, 33, 34, 35, 36] [(21, 17), (21, 18)] X X' ∧ rf_G w h (tb_follow w h num mk) X'))) 54 [some (.ref (ad 21)), some (.int (1)), o2] [] n ad (xs_mem G ad Y) 0 0 := by
    intro k
    induction k with
    | zero => intro st rd rl c o2 Y hk; exact absurd hk (Nat.not_lt_zero _)
    | succ k ih =>
      intro st rd rl c o2 Y hk hf hS hR hc hgo
      have hT1 := rf_fr hT hf
      have hN1 := rf_nfr hN hf
      -- the end of the rounds
      have hend : ∀ (o2 : Option Value) (Z : xs_T), xs_fr [29, 30, 31, 32, 33, 34, 35, 36] [(21, 17), (21, 18)] X Z → rf_G w h (tb_follow w h num mk) Z → jq_J l G mX6_follow (jq_R 6 0 0) jq_E0 (xs_Ye G n ad (xs_pv (fun X' => xs_fr [29, 30, 31, 32, 33, 34, 35, 36] [(21, 17), (21, 18)] X X' ∧ rf_G w h (tb_follow w h num mk) X'))) 153 [some (.ref (ad 21)), some (.int (0)), o2] [] n ad (xs_mem G ad Z) 0 0 := by
        intro o2 Z hfZ hG
        refine jq_iload_n dX6_follow_153 rfl rfl ?_
        refine jq_if_eq (tgt := 54) dX6_follow_154 (by decide) (fun c154 => ?_) (fun c154 => ?_)
        · refine jq_iload_n dX6_follow_54 rfl rfl ?_
          refine jq_if_eq (tgt := 229) dX6_follow_55 (by decide) (fun c55 => ?_) (fun c55 => ?_)
          · exact xq_return rfl dX6_follow_229 rfl (⟨rfl, hfZ, hG⟩)
          · exact absurd rfl c55
        · exact absurd rfl c154
      -- what the round decided is written
      have h157 : ∀ (o2 : Option Value) (Z : xs_T), tb_broken w h num st = 0 → tb_torn w h (tb_asks w h num st) = false → tb_more w h (tb_asks w h num st) = true → xs_fr [29, 30, 31, 32, 33, 34, 35, 36] [(21, 17), (21, 18)] X Z → rf_S w h st Z → (∀ e, e < tb_ne w h → Z.2.2.1 32 e = rd e ∧ Z.2.2.1 33 e = rl e) → Z.1 21 17 = nI c → rf_W w h (tb_asks w h num st) Z → jq_J l G mX6_follow (jq_R 6 0 0) jq_E0 (xs_Ye G n ad (xs_pv (fun X' => xs_fr [29, 30, 31, 32, 33, 34, 35, 36] [(21, 17), (21, 18)] X X' ∧ rf_G w h (tb_follow w h num mk) X'))) 157 [some (.ref (ad 21)), some (.int (1)), o2] [] n ad (xs_mem G ad Z) 0 0 := by
        intro o2 Z hb0 ht0 hm1 hfZ hSZ hRZ hcZ hWZ
        rw [tb_go, if_neg (by rw [hb0]; exact fun q => q rfl), if_neg (by rw [ht0]; exact fun q => by cases q), if_pos hm1] at hgo
        have hun := tb_unk_lt (tb_wok_all (w := w) (h := h) (num := num) (st := st)) hm1
        have hnt : ∀ e, e < tb_ne w h → (tb_asks w h num st).1 e ≠ 3 := by
          intro e he q
          have := tb_anyT (p := fun e => (tb_asks w h num st).1 e == 3) he (by simpa using q)
          unfold tb_torn at ht0
          rw [ht0] at this
          cases this
        generalize hWW : tb_asks w h num st = W at *
        have loopB : ∀ (k e : Nat) (V : xs_T), e + k = tb_ne w h → xs_fr [29, 30, 31, 32, 33, 34, 35, 36] [(21, 17), (21, 18)] X V → V.1 21 17 = nI (c + 1) → rf_W w h W V → (∀ j, j < tb_ne w h → (V.2.2.1 29 j = nI (if j < e then tb_dec W st j else st j) ∧ V.2.2.1 32 j = (if j < e then tb_decR W rd (c + 1) j else rd j) ∧ V.2.2.1 33 j = (if j < e then tb_decL W rl j else rl j))) → jq_J l G mX6_follow (jq_R 6 0 0) jq_E0 (xs_Ye G n ad (xs_pv (fun X' => xs_fr [29, 30, 31, 32, 33, 34, 35, 36] [(21, 17), (21, 18)] X X' ∧ rf_G w h (tb_follow w h num mk) X'))) 169 [some (.ref (ad 21)), some (.int (1)), some (.int (nI (e)))] [] n ad (xs_mem G ad V) 0 0 := by
          intro k
          induction k with
          | zero =>
            intro e V hk2 hfV hcV hWV hV
            have hE := xs_fi hfV 21 3 hT.2.2.2.2.1
            have hS2 : rf_S w h (tb_dec W st) V := by
              intro j hj
              refine ⟨by rw [(hV j hj).1, if_pos (by omega)], ?_⟩
              unfold tb_dec
              split
              · exact (hS j hj).2
              · have := (hWV j hj).2.2.1; have := hnt j hj; omega
            refine jq_iload_n dX6_follow_169 rfl rfl ?_
            refine jq_aload_n dX6_follow_170 rfl rfl ?_
            refine xq_getI fX6_74 dX6_follow_171 (xs_lt (by decide) hn) (by decide) hE ?_
            refine jq_geN (tgt := 226) dX6_follow_174 (by decide) ⟨by omega, by omega⟩ (fun c174 => ?_) (fun c174 => ?_)
            · refine jq_goto (tgt := 54) dX6_follow_226 (by decide) ?_
              exact ih (tb_dec W st) _ _ (c + 1) _ V (by omega) hfV hS2 (fun j hj => ⟨by rw [(hV j hj).2.1, if_pos (by omega)], by rw [(hV j hj).2.2, if_pos (by omega)]⟩) hcV hgo
            · exact absurd c174 (by omega)
          | succ k ihB =>
            intro e V hk2 hfV hcV hWV hV
            have hE := xs_fi hfV 21 3 hT.2.2.2.2.1
            have he : e < tb_ne w h := by omega
            have hi : vp_in (nI e) 40 := vp_inN (by omega) (by decide)
            obtain ⟨v1, v2, v3⟩ := hV e he
            rw [if_neg (Nat.lt_irrefl e)] at v1 v2 v3
            obtain ⟨w1, w2, w3, w4⟩ := hWV e he
            have h220 : ∀ U : xs_T, xs_fr [29, 32, 33] [] V U → (∀ j, j ≠ e → U.2.2.1 29 j = V.2.2.1 29 j ∧ U.2.2.1 32 j = V.2.2.1 32 j ∧ U.2.2.1 33 j = V.2.2.1 33 j) → (U.2.2.1 29 e = nI (tb_dec W st e) ∧ U.2.2.1 32 e = tb_decR W rd (c + 1) e ∧ U.2.2.1 33 e = tb_decL W rl e) → jq_J l G mX6_follow (jq_R 6 0 0) jq_E0 (xs_Ye G n ad (xs_pv (fun X' => xs_fr [29, 30, 31, 32, 33, 34, 35, 36] [(21, 17), (21, 18)] X X' ∧ rf_G w h (tb_follow w h num mk) X'))) 220 [some (.ref (ad 21)), some (.int (1)), some (.int (nI (e)))] [] n ad (xs_mem G ad U) 0 0 := by
              intro U hfU hoU hvU
              refine jq_iincN dX6_follow_220 (by decide) rfl rfl rfl ?_
              refine jq_goto (tgt := 169) dX6_follow_223 (by decide) ?_
              refine ihB (e + 1) U (by omega) (xs_fr_tr hfV (xs_fr_mo hfU (by decide))) (xs_fi hfU 21 17 hcV) (rf_wfr hWV hfU) (fun j hj => ?_)
              by_cases hje : j = e
              · subst hje; rw [if_pos (by omega), if_pos (by omega), if_pos (by omega)]; exact hvU
              · obtain ⟨z1, z2, z3⟩ := hV j hj
                rw [(hoU j hje).1, (hoU j hje).2.1, (hoU j hje).2.2, z1, z2, z3]
                by_cases q : j < e
                · rw [if_pos q, if_pos q, if_pos q, if_pos (by omega), if_pos (by omega), if_pos (by omega)]; exact ⟨rfl, rfl, rfl⟩
                · rw [if_neg q, if_neg q, if_neg q, if_neg (by omega), if_neg (by omega), if_neg (by omega)]; exact ⟨rfl, rfl, rfl⟩
            refine jq_iload_n dX6_follow_169 rfl rfl ?_
            refine jq_aload_n dX6_follow_170 rfl rfl ?_
            refine xq_getI fX6_74 dX6_follow_171 (xs_lt (by decide) hn) (by decide) hE ?_
            refine jq_geN (tgt := 226) dX6_follow_174 (by decide) ⟨by omega, by omega⟩ (fun c174 => ?_) (fun c174 => ?_)
            · exact absurd c174 (by omega)
            · refine jq_aload_n dX6_follow_177 rfl rfl ?_
              refine xq_getR 30 fX6_34 dX6_follow_178 (xs_lt (by decide) hn) (by decide) ?_
              refine jq_iload_n dX6_follow_181 rfl rfl ?_
              refine xq_iaload dX6_follow_182 (xs_lt (by decide) hn) rfl hi (xs_rd w1 (by omega)) ?_
              refine jq_eqZ (tgt := 220) dX6_follow_183 (by decide) (by omega) (fun c183 => ?_) (fun c183 => ?_)
              · exact h220 V xs_fr_rf (fun j _ => ⟨rfl, rfl, rfl⟩) ⟨by rw [v1]; unfold tb_dec; rw [if_pos c183], by rw [v2]; unfold tb_decR; rw [if_pos c183], by rw [v3]; unfold tb_decL; rw [if_pos c183]⟩
              · refine jq_aload_n dX6_follow_186 rfl rfl ?_
                refine xq_getR 29 fX6_31 dX6_follow_187 (xs_lt (by decide) hn) (by decide) ?_
                refine jq_iload_n dX6_follow_190 rfl rfl ?_
                refine jq_aload_n dX6_follow_191 rfl rfl ?_
                refine xq_getR 30 fX6_34 dX6_follow_192 (xs_lt (by decide) hn) (by decide) ?_
                refine jq_iload_n dX6_follow_195 rfl rfl ?_
                refine xq_iaload dX6_follow_196 (xs_lt (by decide) hn) rfl hi (xs_rd w1 (by omega)) ?_
                refine xq_iastore dX6_follow_197 (xs_lt (by decide) hn) rfl hi ?_
                refine jq_aload_n dX6_follow_198 rfl rfl ?_
                refine xq_getR 32 fX6_40 dX6_follow_199 (xs_lt (by decide) hn) (by decide) ?_
                refine jq_iload_n dX6_follow_202 rfl rfl ?_
                refine jq_aload_n dX6_follow_203 rfl rfl ?_
                refine xq_getI fX6_153 dX6_follow_204 (xs_lt (by decide) hn) (by decide) (show (xs_ai V 29 _).1 21 17 = _ from hcV) ?_
                refine xq_iastore dX6_follow_207 (xs_lt (by decide) hn) rfl hi ?_
                refine jq_aload_n dX6_follow_208 rfl rfl ?_
                refine xq_getR 33 fX6_43 dX6_follow_209 (xs_lt (by decide) hn) (by decide) ?_
                refine jq_iload_n dX6_follow_212 rfl rfl ?_
                refine jq_aload_n dX6_follow_213 rfl rfl ?_
                refine xq_getR 31 fX6_37 dX6_follow_214 (xs_lt (by decide) hn) (by decide) ?_
                refine jq_iload_n dX6_follow_217 rfl rfl ?_
                refine xq_iaload dX6_follow_218 (xs_lt (by decide) hn) rfl hi (xs_rd (show (xs_ai (xs_ai V 29 _) 32 _).2.2.1 31 e = _ from w2) (by omega)) ?_
                refine xq_iastore dX6_follow_219 (xs_lt (by decide) hn) rfl hi ?_
                refine h220 _ (xs_fr_ai (xs_fr_ai (xs_fr_ai xs_fr_rf (by decide)) (by decide)) (by decide)) (fun j hj => ⟨?_, ?_, ?_⟩) ⟨?_, ?_, ?_⟩
                · rw [xs_ai_ne (by decide), xs_ai_ne (by decide), xs_ai_at, xs_upd_ne (by omega) hj]
                · rw [xs_ai_ne (by decide), xs_ai_at, xs_upd_ne (by omega) hj, xs_ai_ne (by decide)]
                · rw [xs_ai_at, xs_upd_ne (by omega) hj, xs_ai_ne (by decide), xs_ai_ne (by decide)]
                · rw [xs_ai_ne (by decide), xs_ai_ne (by decide), xs_ai_at, xs_upd_at (by omega)]; unfold tb_dec; rw [if_neg c183]
                · rw [xs_ai_ne (by decide), xs_ai_at, xs_upd_at (by omega)]; unfold tb_decR; rw [if_neg c183]
                · rw [xs_ai_at, xs_upd_at (by omega)]; unfold tb_decL; rw [if_neg c183]
        refine jq_aload_n dX6_follow_157 rfl rfl ?_
        refine jq_dup dX6_follow_158 rfl ?_
        refine xq_getI fX6_153 dX6_follow_159 (xs_lt (by decide) hn) (by decide) hcZ ?_
        refine jq_iconst (v := (nI 1)) dX6_follow_162 (by decide) ?_
        refine jq_iaddN dX6_follow_163 ?_
        refine xq_putI pX6_153 dX6_follow_164 (xs_lt (by decide) hn) (by decide) rfl rfl ?_
        refine jq_iconst (v := (nI 0)) dX6_follow_167 (by decide) ?_
        refine jq_istore_n dX6_follow_168 rfl (by decide) rfl rfl ?_
        refine loopB (tb_ne w h) 0 _ (by omega) (xs_fr_si hfZ (by decide)) xs_si_at hWZ (fun j hj => ?_)
        rw [if_neg (Nat.not_lt_zero j), if_neg (Nat.not_lt_zero j), if_neg (Nat.not_lt_zero j)]
        exact ⟨(hSZ j hj).1, (hRZ j hj).1, (hRZ j hj).2⟩
      -- what is wanted is looked through
      have loopA : ∀ (k e : Nat) (Z : xs_T), e + k = tb_ne w h → tb_broken w h num st = 0 → xs_fr [29, 30, 31, 32, 33, 34, 35, 36] [(21, 17), (21, 18)] X Z → rf_S w h st Z → (∀ e, e < tb_ne w h → Z.2.2.1 32 e = rd e ∧ Z.2.2.1 33 e = rl e) → Z.1 21 17 = nI c → rf_W w h (tb_asks w h num st) Z → Z.1 21 18 = nI (if (List.range e).any (fun e => (tb_asks w h num st).1 e == 3) = true then 5 else 0) → jq_J l G mX6_follow (jq_R 6 0 0) jq_E0 (xs_Ye G n ad (xs_pv (fun X' => xs_fr [29, 30, 31, 32, 33, 34, 35, 36] [(21, 17), (21, 18)] X X' ∧ rf_G w h (tb_follow w h num mk) X'))) 81 [some (.ref (ad 21)), some (.int (tb_b ((List.range e).any (fun e => !((tb_asks w h num st).1 e == 0))))), some (.int (nI (e)))] [] n ad (xs_mem G ad Z) 0 0 := by
        intro k
        induction k with
        | zero =>
          intro e Z hk2 hb0 hfZ hSZ hRZ hcZ hWZ heZ
          have hE := xs_fi hfZ 21 3 hT.2.2.2.2.1
          have e1 : e = tb_ne w h := by omega
          subst e1
          have hgo2 := hgo
          rw [tb_go, if_neg (by rw [hb0]; exact fun q => q rfl)] at hgo2
          refine jq_iload_n dX6_follow_81 rfl rfl ?_
          refine jq_aload_n dX6_follow_82 rfl rfl ?_
          refine xq_getI fX6_74 dX6_follow_83 (xs_lt (by decide) hn) (by decide) hE ?_
          refine jq_geN (tgt := 136) dX6_follow_86 (by decide) ⟨by omega, by omega⟩ (fun c86 => ?_) (fun c86 => ?_)
          · refine jq_iload_n dX6_follow_136 rfl rfl ?_
            refine jq_if_eq (tgt := 151) dX6_follow_137 (by decide) (fun c137 => ?_) (fun c137 => ?_)
            · have hmf : tb_more w h (tb_asks w h num st) = false := tb_b0.mp c137
              refine jq_iconst (v := 0) dX6_follow_151 (by decide) ?_
              refine jq_istore_n dX6_follow_152 rfl (by decide) rfl rfl ?_
              first
                | exact hend _ Z hfZ (by
                    by_cases q : tb_torn w h (tb_asks w h num st) = true
                    · rw [if_pos q] at hgo2; rw [← hgo2]; refine ⟨hSZ, hRZ, hcZ, ?_⟩; rw [heZ]; unfold tb_torn at q; rw [if_pos q]
                    · rw [if_neg q, if_neg (by first | (rw [hmf]; exact fun z => by cases z) | exact absurd htt q)] at hgo2; rw [← hgo2]; refine ⟨hSZ, hRZ, hcZ, ?_⟩; rw [heZ]; unfold tb_torn at q; rw [if_neg q])
                | (refine jq_iload_n dX6_follow_153 rfl rfl ?_
                   refine jq_if_eq (tgt := 54) dX6_follow_154 (by decide) (fun c154 => ?_) (fun c154 => ?_)
                   · exact absurd c154 (by decide)
                   · exact h157 _ Z hb0 htf hmt hfZ hSZ hRZ hcZ hWZ)
            · have hmt : tb_more w h (tb_asks w h num st) = true := tb_b1.mp c137
              refine jq_aload_n dX6_follow_140 rfl rfl ?_
              refine xq_getI fX6_108 dX6_follow_141 (xs_lt (by decide) hn) (by decide) heZ ?_
              refine jq_neZ (tgt := 151) dX6_follow_144 (by decide) (by split <;> decide) (fun c144 => ?_) (fun c144 => ?_)
              · have htt : tb_torn w h (tb_asks w h num st) = true := by unfold tb_torn; by_cases q : (List.range (tb_ne w h)).any (fun e => (tb_asks w h num st).1 e == 3) = true; exact q; rw [if_neg q] at c144; exact absurd rfl c144
                refine jq_iconst (v := 0) dX6_follow_151 (by decide) ?_
                refine jq_istore_n dX6_follow_152 rfl (by decide) rfl rfl ?_
                first
                  | exact hend _ Z hfZ (by
                      by_cases q : tb_torn w h (tb_asks w h num st) = true
                      · rw [if_pos q] at hgo2; rw [← hgo2]; refine ⟨hSZ, hRZ, hcZ, ?_⟩; rw [heZ]; unfold tb_torn at q; rw [if_pos q]
                      · rw [if_neg q, if_neg (by first | (rw [hmf]; exact fun z => by cases z) | exact absurd htt q)] at hgo2; rw [← hgo2]; refine ⟨hSZ, hRZ, hcZ, ?_⟩; rw [heZ]; unfold tb_torn at q; rw [if_neg q])
                  | (refine jq_iload_n dX6_follow_153 rfl rfl ?_
                     refine jq_if_eq (tgt := 54) dX6_follow_154 (by decide) (fun c154 => ?_) (fun c154 => ?_)
                     · exact absurd c154 (by decide)
                     · exact h157 _ Z hb0 htf hmt hfZ hSZ hRZ hcZ hWZ)
              · have htf : tb_torn w h (tb_asks w h num st) = false := by unfold tb_torn; by_cases q : (List.range (tb_ne w h)).any (fun e => (tb_asks w h num st).1 e == 3) = true; rw [if_pos q] at c144; cases c144; exact Bool.eq_false_iff.mpr q
                refine jq_iconst (v := 1) dX6_follow_147 (by decide) ?_
                refine jq_goto (tgt := 152) dX6_follow_148 (by decide) ?_
                refine jq_istore_n dX6_follow_152 rfl (by decide) rfl rfl ?_
                first
                  | exact hend _ Z hfZ (by
                      by_cases q : tb_torn w h (tb_asks w h num st) = true
                      · rw [if_pos q] at hgo2; rw [← hgo2]; refine ⟨hSZ, hRZ, hcZ, ?_⟩; rw [heZ]; unfold tb_torn at q; rw [if_pos q]
                      · rw [if_neg q, if_neg (by first | (rw [hmf]; exact fun z => by cases z) | exact absurd htt q)] at hgo2; rw [← hgo2]; refine ⟨hSZ, hRZ, hcZ, ?_⟩; rw [heZ]; unfold tb_torn at q; rw [if_neg q])
                  | (refine jq_iload_n dX6_follow_153 rfl rfl ?_
                     refine jq_if_eq (tgt := 54) dX6_follow_154 (by decide) (fun c154 => ?_) (fun c154 => ?_)
                     · exact absurd c154 (by decide)
                     · exact h157 _ Z hb0 htf hmt hfZ hSZ hRZ hcZ hWZ)
          · exact absurd c86 (by omega)
        | succ k ihA =>
          intro e Z hk2 hb0 hfZ hSZ hRZ hcZ hWZ heZ
          have hE := xs_fi hfZ 21 3 hT.2.2.2.2.1
          have he : e < tb_ne w h := by omega
          have hi : vp_in (nI e) 40 := vp_inN (by omega) (by decide)
          obtain ⟨w1, w2, w3, w4⟩ := hWZ e he
          have h129 : ∀ (V : xs_T) (b : Bool), b = (List.range (e + 1)).any (fun e => !((tb_asks w h num st).1 e == 0)) → xs_fr [] [(21, 18)] Z V → V.1 21 18 = nI (if (List.range (e + 1)).any (fun e => (tb_asks w h num st).1 e == 3) = true then 5 else 0) → jq_J l G mX6_follow (jq_R 6 0 0) jq_E0 (xs_Ye G n ad (xs_pv (fun X' => xs_fr [29, 30, 31, 32, 33, 34, 35, 36] [(21, 17), (21, 18)] X X' ∧ rf_G w h (tb_follow w h num mk) X'))) 129 [some (.ref (ad 21)), some (.int (tb_b ((List.range e).any (fun e => !((tb_asks w h num st).1 e == 0))))), some (.int (nI (e)))] [.int (tb_b b)] n ad (xs_mem G ad V) 0 0 := by
            intro V b hb hfV hV
            subst hb
            refine jq_istore_n dX6_follow_129 rfl (by decide) rfl rfl ?_
            refine jq_iincN dX6_follow_130 (by decide) rfl rfl rfl ?_
            refine jq_goto (tgt := 81) dX6_follow_133 (by decide) ?_
            exact ihA (e + 1) V (by omega) hb0 (xs_fr_tr hfZ (xs_fr_mo hfV (by decide))) (rf_sfr hSZ hfV) (fun j hj => by rw [xs_fa hfV 32, xs_fa hfV 33]; exact hRZ j hj) (xs_fi hfV 21 17 hcZ) (rf_wfr hWZ hfV) hV
          have h108 : ∀ v : Nat, v = (if (List.range (e + 1)).any (fun e => (tb_asks w h num st).1 e == 3) = true then 5 else 0) → jq_J l G mX6_follow (jq_R 6 0 0) jq_E0 (xs_Ye G n ad (xs_pv (fun X' => xs_fr [29, 30, 31, 32, 33, 34, 35, 36] [(21, 17), (21, 18)] X X' ∧ rf_G w h (tb_follow w h num mk) X'))) 108 [some (.ref (ad 21)), some (.int (tb_b ((List.range e).any (fun e => !((tb_asks w h num st).1 e == 0))))), some (.int (nI (e)))] [.int (nI (v)), .ref (ad 21)] n ad (xs_mem G ad Z) 0 0 := by
            intro v hv
            have hfV : xs_fr [] [(21, 18)] Z (xs_si Z 21 18 (nI v)) := xs_fr_si xs_fr_rf (by decide)
            have hV : (xs_si Z 21 18 (nI v)).1 21 18 = nI (if (List.range (e + 1)).any (fun e => (tb_asks w h num st).1 e == 3) = true then 5 else 0) := by rw [xs_si_at, hv]
            refine xq_putI pX6_108 dX6_follow_108 (xs_lt (by decide) hn) (by decide) rfl rfl ?_
            refine jq_iload_n dX6_follow_111 rfl rfl ?_
            refine jq_if_ne (tgt := 124) dX6_follow_112 (by decide) (fun c112 => ?_) (fun c112 => ?_)
            · have hb2 := tb_b1.mp c112
              refine jq_iconst (v := 1) dX6_follow_124 (by decide) ?_
              refine jq_goto (tgt := 129) dX6_follow_125 (by decide) ?_
              exact xs_nm (by first | exact tb_b1e | exact tb_b0e) (h129 _ _ (by rw [tb_range_any, hb2]; simp [*]) hfV hV)
            · have hb2 := tb_b0.mp c112
              refine jq_aload_n dX6_follow_115 rfl rfl ?_
              refine xq_getR 30 fX6_34 dX6_follow_116 (xs_lt (by decide) hn) (by decide) ?_
              refine jq_iload_n dX6_follow_119 rfl rfl ?_
              refine xq_iaload dX6_follow_120 (xs_lt (by decide) hn) rfl hi (xs_rd (show (xs_si Z 21 18 _).2.2.1 30 e = _ from w1) (by omega)) ?_
              refine jq_eqZ (tgt := 128) dX6_follow_121 (by decide) (by omega) (fun c121 => ?_) (fun c121 => ?_)
              · refine jq_iconst (v := 0) dX6_follow_128 (by decide) ?_
                exact xs_nm (by first | exact tb_b1e | exact tb_b0e) (h129 _ _ (by rw [tb_range_any, hb2]; simp [*]) hfV hV)
              · refine jq_iconst (v := 1) dX6_follow_124 (by decide) ?_
                refine jq_goto (tgt := 129) dX6_follow_125 (by decide) ?_
                exact xs_nm (by first | exact tb_b1e | exact tb_b0e) (h129 _ _ (by rw [tb_range_any, hb2]; simp [*]) hfV hV)
          have hv105 : jq_J l G mX6_follow (jq_R 6 0 0) jq_E0 (xs_Ye G n ad (xs_pv (fun X' => xs_fr [29, 30, 31, 32, 33, 34, 35, 36] [(21, 17), (21, 18)] X X' ∧ rf_G w h (tb_follow w h num mk) X'))) 105 [some (.ref (ad 21)), some (.int (tb_b ((List.range e).any (fun e => !((tb_asks w h num st).1 e == 0))))), some (.int (nI (e)))] [.ref (ad 21), .ref (ad 21)] n ad (xs_mem G ad Z) 0 0 → True := fun _ => trivial
          refine jq_iload_n dX6_follow_81 rfl rfl ?_
          refine jq_aload_n dX6_follow_82 rfl rfl ?_
          refine xq_getI fX6_74 dX6_follow_83 (xs_lt (by decide) hn) (by decide) hE ?_
          refine jq_geN (tgt := 136) dX6_follow_86 (by decide) ⟨by omega, by omega⟩ (fun c86 => ?_) (fun c86 => ?_)
          · exact absurd c86 (by omega)
          · refine jq_aload_n dX6_follow_89 rfl rfl ?_
            refine jq_aload_n dX6_follow_90 rfl rfl ?_
            refine xq_getR 30 fX6_34 dX6_follow_91 (xs_lt (by decide) hn) (by decide) ?_
            refine jq_iload_n dX6_follow_94 rfl rfl ?_
            refine xq_iaload dX6_follow_95 (xs_lt (by decide) hn) rfl hi (xs_rd w1 (by omega)) ?_
            refine jq_iconst (v := (nI 3)) dX6_follow_96 (by decide) ?_
            refine jq_neN (tgt := 104) dX6_follow_97 (by decide) ⟨by omega, by omega⟩ (fun c97 => ?_) (fun c97 => ?_)
            · refine jq_aload_n dX6_follow_104 rfl rfl ?_
              refine xq_getI fX6_108 dX6_follow_105 (xs_lt (by decide) hn) (by decide) heZ ?_
              exact h108 _ (by rw [tb_range_any]; simp [*])
            · refine jq_iconst (v := (nI 5)) dX6_follow_100 (by decide) ?_
              refine jq_goto (tgt := 108) dX6_follow_101 (by decide) ?_
              exact h108 _ (by rw [tb_range_any]; simp [*])
      have hbl := tb_broken_le w h num st
      refine jq_iload_n dX6_follow_54 rfl rfl ?_
      refine jq_if_eq (tgt := 229) dX6_follow_55 (by decide) (fun c55 => ?_) (fun c55 => ?_)
      · exact absurd c55 (by decide)
      · refine jq_aload_n dX6_follow_58 rfl rfl ?_
        refine jq_aload_n dX6_follow_59 rfl rfl ?_
        refine xq_rI dX6_follow_60 kX6_156 (c_X6_brokenBy hn hT1 hS hN1) (xs_lt (by decide) hn) ⟨rfl, rfl⟩ rfl rfl (Nat.le_of_ble_eq_true rfl) ⟨⟨by decide, by decide⟩, Nat.le_refl _, Nat.le_refl _⟩ (fun v60 X60 h60 => ?_)
        obtain ⟨rfl, hf2⟩ := h60
        have hf3 : xs_fr [29, 30, 31, 32, 33, 34, 35, 36] [(21, 17), (21, 18)] X (xs_si X60 21 18 (nI (tb_broken w h num st))) := xs_fr_si (xs_fr_tr hf (xs_fr_mo hf2 (by decide))) (by decide)
        have hf4 : xs_fr [34, 35, 36] [(21, 18)] Y (xs_si X60 21 18 (nI (tb_broken w h num st))) := xs_fr_si (xs_fr_mo hf2 (by decide)) (by decide)
        refine xq_putI pX6_108 dX6_follow_63 (xs_lt (by decide) hn) (by decide) rfl rfl ?_
        refine jq_iconst (v := (nI 0)) dX6_follow_66 (by decide) ?_
        refine jq_istore_n dX6_follow_67 rfl (by decide) rfl rfl ?_
        refine jq_aload_n dX6_follow_68 rfl rfl ?_
        refine xq_getI fX6_108 dX6_follow_69 (xs_lt (by decide) hn) (by decide) xs_si_at ?_
        refine jq_neZ (tgt := 153) dX6_follow_72 (by decide) (by omega) (fun c72 => ?_) (fun c72 => ?_)
        · rw [tb_go, if_pos c72] at hgo
          exact hend _ _ hf3 (by rw [← hgo]; exact ⟨rf_sfr hS hf4, fun j hj => (by rw [xs_fa hf4 32, xs_fa hf4 33]; exact hR j hj), xs_fi hf4 21 17 hc, xs_si_at⟩)
        · refine jq_aload_n dX6_follow_75 rfl rfl ?_
          refine xq_rV dX6_follow_76 kX6_159 (c_X6_asks hn (rf_fr hT hf3) (rf_sfr hS hf4) (rf_nfr hN hf3)) (xs_lt (by decide) hn) ⟨rfl, rfl⟩ rfl rfl (Nat.le_of_ble_eq_true rfl) ⟨⟨by decide, by decide⟩, Nat.le_refl _, Nat.le_refl _⟩ (fun X76 h76 => ?_)
          obtain ⟨hf5, hS5, hW5⟩ := h76
          refine jq_iconst (v := (nI 0)) dX6_follow_79 (by decide) ?_
          refine jq_istore_n dX6_follow_80 rfl (by decide) rfl rfl ?_
          refine loopA (tb_ne w h) 0 _ (by omega) c72 (xs_fr_tr hf3 (xs_fr_mo hf5 (by decide))) hS5 (fun j hj => by rw [xs_fa hf5 32, xs_fa hf5 33, xs_fa hf4 32, xs_fa hf4 33]; exact hR j hj) (xs_fi hf5 21 17 (xs_fi hf4 21 17 hc)) hW5 ?_
          exact xs_fi hf5 21 18 (by rw [xs_si_at, c72]; rfl)
  -- round and rule of each edge at the start
  have loop0 : ∀ (k e : Nat) (Y : xs_T), e + k = tb_ne w h → xs_fr [29, 30, 31, 32, 33, 34, 35, 36] [(21, 17), (21, 18)] X Y → rf_S w h mk Y → Y.1 21 17 = nI 0 → (∀ j, j < e → Y.2.2.1 32 j = tb_rd0 mk j ∧ Y.2.2.1 33 j = -1) → jq_J l G mX6_follow (jq_R 6 0 0) jq_E0 (xs_Ye G n ad (xs_pv (fun X' => xs_fr [29, 30, 31, 32, 33, 34, 35, 36] [(21, 17), (21, 18)] X X' ∧ rf_G w h (tb_follow w h num mk) X'))) 11 [some (.ref (ad 21)), some (.int (nI (e))), none] [] n ad (xs_mem G ad Y) 0 0 := by
    intro k
    induction k with
    | zero =>
      intro e Y hk hf hS hc h0
      have hE := xs_fi hf 21 3 hT.2.2.2.2.1
      have hu : tb_unk w h mk < 41 := Nat.lt_of_le_of_lt (fb_ct_le _ _) (by omega)
      refine jq_iload_n dX6_follow_11 rfl rfl ?_
      refine jq_aload_n dX6_follow_12 rfl rfl ?_
      refine xq_getI fX6_74 dX6_follow_13 (xs_lt (by decide) hn) (by decide) hE ?_
      refine jq_geN (tgt := 52) dX6_follow_16 (by decide) ⟨by omega, by omega⟩ (fun c16 => ?_) (fun c16 => ?_)
      · refine jq_iconst (v := 1) dX6_follow_52 (by decide) ?_
        refine jq_istore_n dX6_follow_53 rfl (by decide) rfl rfl ?_
        exact main 41 mk (tb_rd0 mk) (fun _ => -1) 0 _ Y hu hf hS (fun j hj => h0 j (by omega)) hc rfl
      · exact absurd c16 (by omega)
    | succ k ih =>
      intro e Y hk hf hS hc h0
      have hE := xs_fi hf 21 3 hT.2.2.2.2.1
      have hi : vp_in (nI e) 40 := vp_inN (by omega) (by decide)
      have hm := rf_mfr hM hf (by decide) e (by omega)
      have h38 : ∀ v : Int32, v = tb_rd0 mk e → jq_J l G mX6_follow (jq_R 6 0 0) jq_E0 (xs_Ye G n ad (xs_pv (fun X' => xs_fr [29, 30, 31, 32, 33, 34, 35, 36] [(21, 17), (21, 18)] X X' ∧ rf_G w h (tb_follow w h num mk) X'))) 38 [some (.ref (ad 21)), some (.int (nI (e))), none] [.int (v), .int (nI (e)), .ref (ad 32)] n ad (xs_mem G ad Y) 0 0 := by
        intro v hv
        refine xq_iastore dX6_follow_38 (xs_lt (by decide) hn) rfl hi ?_
        refine jq_aload_n dX6_follow_39 rfl rfl ?_
        refine xq_getR 33 fX6_43 dX6_follow_40 (xs_lt (by decide) hn) (by decide) ?_
        refine jq_iload_n dX6_follow_43 rfl rfl ?_
        refine jq_iconst (v := (-1)) dX6_follow_44 (by decide) ?_
        refine xq_iastore dX6_follow_45 (xs_lt (by decide) hn) rfl hi ?_
        refine jq_iincN dX6_follow_46 (by decide) rfl rfl rfl ?_
        refine jq_goto (tgt := 11) dX6_follow_49 (by decide) ?_
        refine ih (e + 1) _ (by omega) (xs_fr_ai (xs_fr_ai hf (by decide)) (by decide)) (fun j hj => ?_) hc (fun j hj => ?_)
        · rw [xs_ai_ne (by decide), xs_ai_ne (by decide)]; exact hS j hj
        · rw [xs_ai_at, xs_ai_ne (by decide), xs_ai_at]
          rcases Nat.lt_or_ge j e with q | q
          · rw [xs_upd_ne (by omega) (by omega), xs_upd_ne (by omega) (by omega)]; exact h0 j q
          · rw [show j = e by omega, xs_upd_at (by omega), xs_upd_at (by omega), hv]; exact ⟨rfl, rfl⟩
      refine jq_iload_n dX6_follow_11 rfl rfl ?_
      refine jq_aload_n dX6_follow_12 rfl rfl ?_
      refine xq_getI fX6_74 dX6_follow_13 (xs_lt (by decide) hn) (by decide) hE ?_
      refine jq_geN (tgt := 52) dX6_follow_16 (by decide) ⟨by omega, by omega⟩ (fun c16 => ?_) (fun c16 => ?_)
      · exact absurd c16 (by omega)
      · refine jq_aload_n dX6_follow_19 rfl rfl ?_
        refine xq_getR 32 fX6_40 dX6_follow_20 (xs_lt (by decide) hn) (by decide) ?_
        refine jq_iload_n dX6_follow_23 rfl rfl ?_
        refine jq_aload_n dX6_follow_24 rfl rfl ?_
        refine xq_getR 28 fX6_28 dX6_follow_25 (xs_lt (by decide) hn) (by decide) ?_
        refine jq_iload_n dX6_follow_28 rfl rfl ?_
        refine xq_iaload dX6_follow_29 (xs_lt (by decide) hn) rfl hi (xs_rd hm.1 (by omega)) ?_
        refine jq_neZ (tgt := 37) dX6_follow_30 (by decide) (by omega) (fun c30 => ?_) (fun c30 => ?_)
        · refine jq_iconst (v := 0) dX6_follow_37 (by decide) ?_
          exact h38 _ (by unfold tb_rd0; first | exact (if_neg c30).symm | exact (if_pos c30).symm)
        · refine jq_iconst (v := (-1)) dX6_follow_33 (by decide) ?_
          refine jq_goto (tgt := 38) dX6_follow_34 (by decide) ?_
          exact h38 _ (by unfold tb_rd0; first | exact (if_neg c30).symm | exact (if_pos c30).symm)
  refine xs_Ct_of (L := [some (.ref (ad 21)), none, none]) rfl (Nat.le_of_ble_eq_true rfl) rfl ?_
  refine jq_aload_n dX6_follow_0 rfl rfl ?_
  refine xq_rV dX6_follow_1 kX6_150 (c_X6_takeMarks hn hT) (xs_lt (by decide) hn) ⟨rfl, rfl⟩ rfl rfl (Nat.le_of_ble_eq_true rfl) ⟨⟨by decide, by decide⟩, Nat.le_refl _, Nat.le_refl _⟩ (fun X1 h1 => ?_)
  refine jq_aload_n dX6_follow_4 rfl rfl ?_
  refine jq_iconst (v := (nI 0)) dX6_follow_5 (by decide) ?_
  refine xq_putI pX6_153 dX6_follow_6 (xs_lt (by decide) hn) (by decide) rfl rfl ?_
  refine jq_iconst (v := (nI 0)) dX6_follow_9 (by decide) ?_
  refine jq_istore_n dX6_follow_10 rfl (by decide) rfl rfl ?_
  refine loop0 (tb_ne w h) 0 _ (by omega) (xs_fr_si (xs_fr_mo h1.1 (by decide)) (by decide)) (fun j hj => ?_) xs_si_at (fun j hj => absurd hj (Nat.not_lt_zero j))
  exact ⟨(h1.2 j hj).trans (hM j hj).1, (hM j hj).2⟩
end
